/-! frames by predicates -/
def FrP (S : Nat → Prop) (σ σ' : Mem) : Prop := ∀ a, ¬ S a → σ'.1 a = σ.1 a ∧ σ'.2.1 a = σ.2.1 a ∧ σ'.2.2 a = σ.2.2 a
theorem FrP.rf {S : Nat → Prop} {σ : Mem} : FrP S σ σ := fun _ _ => ⟨rfl, rfl, rfl⟩
theorem FrP.tr {S : Nat → Prop} {σ1 σ2 σ3 : Mem} (h1 : FrP S σ1 σ2) (h2 : FrP S σ2 σ3) : FrP S σ1 σ3 := fun a ha => ⟨(h2 a ha).1.trans (h1 a ha).1, (h2 a ha).2.1.trans (h1 a ha).2.1, (h2 a ha).2.2.trans (h1 a ha).2.2⟩
theorem FrP.mono {S T : Nat → Prop} {σ σ' : Mem} (h : FrP S σ σ') (hs : ∀ a, S a → T a) : FrP T σ σ' := fun a ha => h a (fun z => ha (hs a z))
theorem Fr.P {S : List Nat} {T : Nat → Prop} {σ σ' : Mem} (h : Fr S σ σ') (hs : ∀ a ∈ S, T a) : FrP T σ σ' := fun a ha => h a (fun z => ha (hs a z))
theorem FrI.P {S : List Nat} {T : Nat → Prop} {σ σ' : Mem} (h : FrI S σ σ') (hs : ∀ a ∈ S, T a) : FrP T σ σ' := h.fr.P hs
theorem FrP.wI {S : Nat → Prop} {σ σ' : Mem} {a j : Nat} {v : Int32} (h : FrP S σ σ') (ha : S a) : FrP S σ (wI σ' a j v) := fun b hb => ⟨by rw [wI_o (show b ≠ a from fun z => hb (by rw [z]; exact ha))]; exact (h b hb).1, (h b hb).2.1, (h b hb).2.2⟩
theorem FrP.wR {S : Nat → Prop} {σ σ' : Mem} {a j : Nat} {v : Option Nat} (h : FrP S σ σ') (ha : S a) : FrP S σ (wR σ' a j v) := fun b hb => ⟨(h b hb).1, by rw [wR_o (show b ≠ a from fun z => hb (by rw [z]; exact ha))]; exact (h b hb).2.1, (h b hb).2.2⟩
theorem isRow.P {Γ : List Sh} {σ σ' : Mem} {r n : Nat} {ys : List Int32} {S : Nat → Prop} (h : isRow Γ σ r n ys) (hf : FrP S σ σ') (h1 : ¬ S r) (h2 : ¬ S (r + 1)) : isRow Γ σ' r n ys := by
  obtain ⟨a1, a2, a3, a4, a5, a6, a7⟩ := h
  exact ⟨a1, a2, by rw [(hf r h1).2.1]; exact a3, a4, by rw [(hf r h1).1]; exact a5, fun i hi => by rw [(hf _ h2).1]; exact a6 i hi, by rw [(hf r h1).1]; exact a7⟩
theorem isSg.P {Γ : List Sh} {σ σ' : Mem} {g : Nat} {pt : Nat → Int32} {cs : Nat → Bool} {S : Nat → Prop} (h : isSg Γ σ g pt cs) (hf : FrP S σ σ') (h0 : ¬ S g) (h1 : ¬ S (g + 1)) (h2 : ¬ S (g + 2)) : isSg Γ σ' g pt cs := by
  obtain ⟨a, b, c, d⟩ := h
  exact ⟨a, by rw [(hf g h0).2.1]; exact b, fun i hi => by rw [(hf _ h1).1]; exact c i hi, fun i hi => by rw [(hf _ h2).1]; exact d i hi⟩
theorem isSub.P {Γ : List Sh} {σ σ' : Mem} {c k : Nat} {β : Nat → Option (Nat × Nat × Nat)} {S : Nat → Prop} (h : isSub Γ σ c k β) (hf : FrP S σ σ') (h0 : ¬ S c) (h1 : ¬ S (c + 1)) (h2 : ¬ S (c + 2)) (h3 : ¬ S (c + 3)) (h4 : ¬ S (c + 4)) : isSub Γ σ' c k β := by
  obtain ⟨a, b, e, d, f⟩ := h
  refine ⟨a, by rw [(hf c h0).2.1]; exact b, by rw [(hf c h0).1]; exact e, d, fun v hv => ?_⟩
  rw [(hf _ h1).2.1, (hf _ h2).1, (hf _ h3).1, (hf _ h4).1]
  exact f v hv
theorem isSrc.P {Γ : List Sh} {σ σ' : Mem} {q g c : Nat} {bd : Nat → List Int32} {S : Nat → Prop} (h : isSrc Γ σ q g c bd) (hf : FrP S σ σ') (h0 : ∀ a, q ≤ a → a ≤ q + 97 → ¬ S a) : isSrc Γ σ' q g c bd := by
  obtain ⟨a, b, e, d, f, i⟩ := h
  refine ⟨a, b, ?_, ?_, ?_, fun j hj => ⟨?_, ?_, (i j hj).2.2⟩⟩
  · rw [(hf q (h0 _ (by omega) (by omega))).2.1]; exact e
  · rw [(hf q (h0 _ (by omega) (by omega))).2.1]; exact d
  · rw [(hf q (h0 _ (by omega) (by omega))).2.1]; exact f
  · rw [(hf (q + 1) (h0 _ (by omega) (by omega))).2.1]; exact (i j hj).1
  · exact (i j hj).2.1.P hf (h0 _ (by omega) (by omega)) (h0 _ (by omega) (by omega))
theorem isSrc.set {Γ : List Sh} {σ σ' : Mem} {q g c i : Nat} {ys : List Int32} {bd : Nat → List Int32} (h : isSrc Γ σ q g c bd) (hi : i < 48) (hf : FrI [q + 2 + 2 * i, q + 2 + 2 * i + 1] σ σ') (hr : isRow Γ σ' (q + 2 + 2 * i) 24 ys) (hl : ys.length ≤ 24) : isSrc Γ σ' q g c (upN bd i ys) := by
  obtain ⟨a, b, e, d, f, k⟩ := h
  refine ⟨a, b, by rw [hf.1]; exact e, by rw [hf.1]; exact d, by rw [hf.1]; exact f, fun j hj => ⟨by rw [hf.1]; exact (k j hj).1, ?_⟩⟩
  by_cases z : j = i
  · subst z
    have e1 : upN bd j ys j = ys := by simp [upN]
    rw [e1]
    exact ⟨hr, hl⟩
  · have e1 : upN bd i ys j = bd j := by simp [upN, z]
    rw [e1]
    exact ⟨(k j hj).2.1.fr hf (by simp; omega) (by simp; omega), (k j hj).2.2⟩
def dcl (pt : Nat → Int32) (f : Int32) : Bool := if f < 0 then false else if 8 ≤ f then false else if sgP pt (200 + f) ≤ 0 then false else true
set_option maxRecDepth 10000 in
set_option maxHeartbeats 1000000 in
theorem c_SourceProgram_isDeclared {G : Ctx} {d : Nat} {Γ : List Sh} {σ : Mem} {Q : Option Value → List Sh → Mem → Prop} {q g c : Nat} {bd : Nat → List Int32} {pt : Nat → Int32} {cs : Nat → Bool} {f : Int32} (hS : isSrc Γ σ q g c bd) (hG : isSg Γ σ g pt cs) (hQ : Q (some (.int (bI (dcl pt f)))) Γ σ) : Ct G M_SourceProgram_isDeclared (d + 1) 0 0 [rf G q, .int f] Γ σ Q := by
  obtain ⟨s1, s2, s3, s4, s5, s6⟩ := id hS
  obtain ⟨⟨g1, g2, g3, g4, g5, g6⟩, -⟩ := id hG
  refine Ct.of (lv := [some (rf G q), some (.int f)]) (ll := []) rfl rfl (EN.cat (n := 0) ⟨rfl, rfl, trivial⟩ (Nat.le_of_ble_eq_true rfl)) ?_
  refine x_iload_n d_SourceProgram_isDeclared_0 rfl rfl ?_
  refine x_if_lt (tgt := 29) d_SourceProgram_isDeclared_1 (by decide) (fun c1 => ?_) (fun c1 => ?_)
  · refine x_iconst (v := 0) d_SourceProgram_isDeclared_29 (by decide) ?_
    exact x_ireturn d_SourceProgram_isDeclared_30 rfl (by first | rfl | decide) (by simpa [dcl, bI, *] using hQ)
  · refine x_iload_n d_SourceProgram_isDeclared_4 rfl rfl ?_
    refine x_bipush (v := 8) d_SourceProgram_isDeclared_5 (by decide) ?_
    refine x_icmp_ge (tgt := 29) d_SourceProgram_isDeclared_7 (by decide) (fun c7 => ?_) (fun c7 => ?_)
    · refine x_iconst (v := 0) d_SourceProgram_isDeclared_29 (by decide) ?_
      exact x_ireturn d_SourceProgram_isDeclared_30 rfl (by first | rfl | decide) (by simpa [dcl, bI, *] using hQ)
    · first | refine x_aload_n d_SourceProgram_isDeclared_10 rfl rfl ?_ | refine x_aloadN_n d_SourceProgram_isDeclared_10 rfl rfl ?_ | refine x_aloadE_n d_SourceProgram_isDeclared_10 rfl rfl ?_
      refine x_getR d_SourceProgram_isDeclared_11 f_SourceProgram_20 rfl (by assumption) (by assumption) ?_
      refine x_sipush (v := 200) d_SourceProgram_isDeclared_14 (by decide) ?_
      refine x_iload_n d_SourceProgram_isDeclared_17 rfl rfl ?_
      refine x_iadd d_SourceProgram_isDeclared_18 ?_
      refine x_callV1 d_SourceProgram_isDeclared_19 k_Signs_partsOf l_SourceProgram_34 v_Signs_partsOf rfl s_Signs_partsOf (by assumption) RoomE.m (Nat.le_of_ble_eq_true rfl) (c_Signs_partsOf hG ?_)
      refine x_if_le (tgt := 29) d_SourceProgram_isDeclared_22 (by decide) (fun c22 => ?_) (fun c22 => ?_)
      · refine x_iconst (v := 0) d_SourceProgram_isDeclared_29 (by decide) ?_
        exact x_ireturn d_SourceProgram_isDeclared_30 rfl (by first | rfl | decide) (by simpa [dcl, bI, *] using hQ)
      · refine x_iconst (v := 1) d_SourceProgram_isDeclared_25 (by decide) ?_
        refine x_goto (tgt := 30) d_SourceProgram_isDeclared_26 (by decide) ?_
        exact x_ireturn d_SourceProgram_isDeclared_30 rfl (by first | rfl | decide) (by simpa [dcl, bI, *] using hQ)
theorem fn_ok {f : Int32} (h0 : ¬ f < 0) (h8 : ¬ 8 ≤ f) : isC (200 + f) = true ∧ ¬ 401 ≤ 200 + f ∧ (200 + f).toNatClampNeg = 200 + f.toNatClampNeg ∧ f.toNatClampNeg < 8 := by
  obtain ⟨k, hk, ek⟩ := nI_of h0
  have hk8 : k < 8 := Nat.not_le.mp fun z => h8 (by rw [ek]; exact (nI_leI (a := 8) (by decide) hk).mpr z)
  have e : 200 + f = nI (200 + k) := by rw [ek, show (200 : Int32) = nI 200 from by decide, nI_add]
  rw [e, ek, nI_clamp (by omega), nI_clamp (by omega)]
  refine ⟨?_, ?_, rfl, hk8⟩
  · have : ¬ nI (200 + k) < 200 := by
      rw [show (200 : Int32) = nI 200 from by decide, nI_ltI (by omega) (by decide)]; omega
    simp [isC, this]
  · rw [show (401 : Int32) = nI 401 from by decide, nI_leI (by decide) (by omega)]; omega
set_option maxRecDepth 10000 in
set_option maxHeartbeats 1000000 in
theorem c_SourceProgram_declare {G : Ctx} {d : Nat} {Γ : List Sh} {σ : Mem} {Q : Option Value → List Sh → Mem → Prop} {q g c : Nat} {bd : Nat → List Int32} {pt : Nat → Int32} {cs : Nat → Bool} {f n : Int32} {b : Bool} (hS : isSrc Γ σ q g c bd) (hG : isSg Γ σ g pt cs) (h0 : ¬ f < 0) (h8 : ¬ 8 ≤ f) (hQ : ∀ σ', isSg Γ σ' g (upN pt (200 + f.toNatClampNeg) n) (upN cs (200 + f.toNatClampNeg) b) → FrI [g + 1, g + 2] σ σ' → Q none Γ σ') : Ct G M_SourceProgram_declare (d + 2) 0 0 [rf G q, .int f, .int n, .int (bI b)] Γ σ Q := by
  obtain ⟨s1, s2, s3, s4, s5, s6⟩ := id hS
  obtain ⟨⟨g1, g2, g3, g4, g5, g6⟩, -⟩ := id hG
  refine Ct.of (lv := [some (rf G q), some (.int f), some (.int n), some (.int (bI b))]) (ll := []) rfl rfl (EN.cat (n := 0) ⟨rfl, rfl, rfl, rfl, trivial⟩ (Nat.le_of_ble_eq_true rfl)) ?_
  first | refine x_aload_n d_SourceProgram_declare_0 rfl rfl ?_ | refine x_aloadN_n d_SourceProgram_declare_0 rfl rfl ?_ | refine x_aloadE_n d_SourceProgram_declare_0 rfl rfl ?_
  refine x_getR d_SourceProgram_declare_1 f_SourceProgram_20 rfl (by assumption) (by assumption) ?_
  refine x_sipush (v := 200) d_SourceProgram_declare_4 (by decide) ?_
  refine x_iload_n d_SourceProgram_declare_7 rfl rfl ?_
  refine x_iadd d_SourceProgram_declare_8 ?_
  refine x_iload_n d_SourceProgram_declare_9 rfl rfl ?_
  refine x_iload_n d_SourceProgram_declare_10 rfl rfl ?_
  refine x_callV3 d_SourceProgram_declare_11 k_Signs_shape l_SourceProgram_24 v_Signs_shape rfl s_Signs_shape (by assumption) RoomE.m (Nat.le_of_ble_eq_true rfl) (c_Signs_shape hG (fn_ok h0 h8).1 (fn_ok h0 h8).2.1 (fun σ1 h1 f1 => ?_))
  rw [(fn_ok h0 h8).2.2.1] at h1
  exact x_return d_SourceProgram_declare_14 rfl (hQ _ h1 f1)
set_option maxRecDepth 10000 in
set_option maxHeartbeats 1000000 in
theorem c_SourceProgram_define {G : Ctx} {d : Nat} {Γ : List Sh} {σ : Mem} {Q : Option Value → List Sh → Mem → Prop} {q g c r i : Nat} {bd : Nat → List Int32} {f x : Int32} {ys : List Int32} (hS : isSrc Γ σ q g c bd) (hT : isRow Γ σ r 24 ys) (hpl : plc (200 + f) x = some i) (hne : r ≠ q + 2 + 2 * i) (hQ : ∀ σ', isSrc Γ σ' q g c (upN bd i (ys.take 24)) → FrI [q + 2 + 2 * i, q + 2 + 2 * i + 1] σ σ' → Q none Γ σ') : Ct G M_SourceProgram_define (d + 3) 0 0 [rf G q, .int f, .int x, rf G r] Γ σ Q := by
  obtain ⟨s1, s2, s3, s4, s5, s6⟩ := id hS
  have hi : i < 48 := plc_lt hpl
  have hrow := (s6 i hi).2.1
  have hr0 := hrow.1
  refine Ct.of (lv := [some (rf G q), some (.int f), some (.int x), some (rf G r), none]) (ll := []) rfl rfl (EN.cat (n := 1) ⟨rfl, rfl, rfl, rfl, trivial⟩ (Nat.le_of_ble_eq_true rfl)) ?_
  first | refine x_aload_n d_SourceProgram_define_0 rfl rfl ?_ | refine x_aloadN_n d_SourceProgram_define_0 rfl rfl ?_ | refine x_aloadE_n d_SourceProgram_define_0 rfl rfl ?_
  refine x_sipush (v := 200) d_SourceProgram_define_1 (by decide) ?_
  refine x_iload_n d_SourceProgram_define_4 rfl rfl ?_
  refine x_iadd d_SourceProgram_define_5 ?_
  refine x_iload_n d_SourceProgram_define_6 rfl rfl ?_
  refine x_callV2 d_SourceProgram_define_7 k_SourceProgram_placeOf l_SourceProgram_59 v_SourceProgram_placeOf rfl s_SourceProgram_placeOf (by assumption) RoomE.m (Nat.le_of_ble_eq_true rfl) (c_SourceProgram_placeOf hS ?_)
  rw [hpl]
  refine x_astore (x := q + 2 + 2 * i) d_SourceProgram_define_10 rfl ?_
  first | refine x_aload d_SourceProgram_define_12 rfl ?_ | refine x_aloadN d_SourceProgram_define_12 rfl ?_ | refine x_aloadE d_SourceProgram_define_12 rfl ?_
  refine x_ifnull d_SourceProgram_define_14 ?_
  first | refine x_aload d_SourceProgram_define_17 rfl ?_ | refine x_aloadN d_SourceProgram_define_17 rfl ?_ | refine x_aloadE d_SourceProgram_define_17 rfl ?_
  first | refine x_aload_n d_SourceProgram_define_19 rfl rfl ?_ | refine x_aloadN_n d_SourceProgram_define_19 rfl rfl ?_ | refine x_aloadE_n d_SourceProgram_define_19 rfl rfl ?_
  refine x_callV1 d_SourceProgram_define_20 k_Row_copy l_SourceProgram_63 v_Row_copy rfl s_Row_copy (by assumption) RoomE.m (Nat.le_of_ble_eq_true rfl) (c_Row_copy hrow hT hne (fun σ1 h1 f1 => ?_))
  exact x_return d_SourceProgram_define_23 rfl (hQ _ (hS.set hi f1 h1 (by simp; omega)) f1)
