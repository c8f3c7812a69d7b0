/-! SuperDriver$Substitution at cell c -/
/-- changes in the cells S alone -/
def Fr (S : List Nat) (σ σ' : Mem) : Prop := ∀ a, a ∉ S → σ'.1 a = σ.1 a ∧ σ'.2.1 a = σ.2.1 a ∧ σ'.2.2 a = σ.2.2 a
theorem Fr.rf {S : List Nat} {σ : Mem} : Fr S σ σ := fun _ _ => ⟨rfl, rfl, rfl⟩
theorem Fr.tr {S : List Nat} {σ1 σ2 σ3 : Mem} (h1 : Fr S σ1 σ2) (h2 : Fr S σ2 σ3) : Fr S σ1 σ3 := fun a ha => ⟨(h2 a ha).1.trans (h1 a ha).1, (h2 a ha).2.1.trans (h1 a ha).2.1, (h2 a ha).2.2.trans (h1 a ha).2.2⟩
theorem Fr.mono {S T : List Nat} {σ σ' : Mem} (h : Fr S σ σ') (hs : ∀ a ∈ S, a ∈ T) : Fr T σ σ' := fun a ha => h a (fun z => ha (hs a z))
theorem FrI.fr {S : List Nat} {σ σ' : Mem} (h : FrI S σ σ') : Fr S σ σ' := fun a ha => ⟨h.2 a ha, by rw [h.1], by rw [h.1]⟩
theorem Fr.wI {S : List Nat} {σ σ' : Mem} {a j : Nat} {v : Int32} (h : Fr S σ σ') (ha : a ∈ S) : Fr S σ (wI σ' a j v) := fun b hb => ⟨by rw [wI_o (show b ≠ a from fun z => hb (by rw [z]; exact ha))]; exact (h b hb).1, (h b hb).2.1, (h b hb).2.2⟩
theorem wR_o {σ : Mem} {a b j : Nat} {v : Option Nat} (h : b ≠ a) : (wR σ a j v).2.1 b = σ.2.1 b := by funext i; simp [wR, h]
theorem wR_s {σ : Mem} {a j : Nat} {v : Option Nat} : (wR σ a j v).2.1 a j = v := by simp [wR]
theorem wR_j {σ : Mem} {a i j : Nat} {v : Option Nat} (h : i ≠ j) : (wR σ a j v).2.1 a i = σ.2.1 a i := by simp [wR, h]
theorem Fr.wR {S : List Nat} {σ σ' : Mem} {a j : Nat} {v : Option Nat} (h : Fr S σ σ') (ha : a ∈ S) : Fr S σ (wR σ' a j v) := fun b hb => ⟨(h b hb).1, by rw [wR_o (show b ≠ a from fun z => hb (by rw [z]; exact ha))]; exact (h b hb).2.1, (h b hb).2.2⟩
theorem isRow.Fr {Γ : List Sh} {σ σ' : Mem} {r n : Nat} {ys : List Int32} {S : List Nat} (h : isRow Γ σ r n ys) (hf : Fr S σ σ') (h1 : r ∉ S) (h2 : r + 1 ∉ S) : isRow Γ σ' r n ys := by
  obtain ⟨a1, a2, a3, a4, a5, a6, a7⟩ := h
  exact ⟨a1, a2, by rw [(hf r h1).2.1]; exact a3, a4, by rw [(hf r h1).1]; exact a5, fun i hi => by rw [(hf _ h2).1]; exact a6 i hi, by rw [(hf r h1).1]; exact a7⟩
theorem isSg.Fr {Γ : List Sh} {σ σ' : Mem} {g : Nat} {pt : Nat → Int32} {cs : Nat → Bool} {S : List Nat} (h : isSg Γ σ g pt cs) (hf : Fr S σ σ') (h0 : g ∉ S) (h1 : g + 1 ∉ S) (h2 : g + 2 ∉ S) : isSg Γ σ' g pt cs := by
  obtain ⟨a, b, c, d⟩ := h
  exact ⟨a, by rw [(hf g h0).2.1]; exact b, fun i hi => by rw [(hf _ h1).1]; exact c i hi, fun i hi => by rw [(hf _ h2).1]; exact d i hi⟩
theorem isRow.more {Γ : List Sh} {σ : Mem} {r n : Nat} {ys zs : List Int32} (h : isRow Γ σ r n ys) (hl : n < ys.length) : isRow Γ σ r n (ys ++ zs) := by
  obtain ⟨a1, a2, a3, a4, a5, a6, a7⟩ := h
  have t2 : (ys ++ zs).take n = ys.take n := List.take_append_of_le_length (by omega)
  refine ⟨a1, a2, a3, a4, by rw [t2]; exact a5, fun i hi => by rw [t2] at hi ⊢; exact a6 i hi, ?_⟩
  rw [a7, bI_t hl, bI_t (by simp; omega)]
/-- v stands for the places f .. t of the row rr, if β v = (rr, f, t); k: how often a substitution was begun -/
def isSub (Γ : List Sh) (σ : Mem) (c k : Nat) (β : Nat → Option (Nat × Nat × Nat)) : Prop :=
  (Γ[c]? = some (0, 2) ∧ Γ[c + 1]? = some (4, 100) ∧ Γ[c + 2]? = some (1, 100) ∧ Γ[c + 3]? = some (1, 100) ∧ Γ[c + 4]? = some (1, 100)) ∧
  (σ.2.1 c 0 = some (c + 1) ∧ σ.2.1 c 1 = some (c + 2) ∧ σ.2.1 c 2 = some (c + 3) ∧ σ.2.1 c 3 = some (c + 4)) ∧
  σ.1 c 4 = nI k ∧ k ≤ 1000000000 ∧
  ∀ v, v < 100 → (∃ j, j < k ∧ σ.1 (c + 4) v = nI j ∧ β v = none) ∨ (σ.1 (c + 4) v = nI k ∧ ∃ rr f t, β v = some (rr, f, t) ∧ (rr = c ∨ σ.2.1 (c + 1) v = some rr) ∧ σ.1 (c + 2) v = nI f ∧ σ.1 (c + 3) v = nI t)
theorem isSub.Fr {Γ : List Sh} {σ σ' : Mem} {c k : Nat} {β : Nat → Option (Nat × Nat × Nat)} {S : List Nat} (h : isSub Γ σ c k β) (hf : Fr S σ σ') (h0 : c ∉ S) (h1 : c + 1 ∉ S) (h2 : c + 2 ∉ S) (h3 : c + 3 ∉ S) (h4 : c + 4 ∉ S) : isSub Γ σ' c k β := by
  obtain ⟨a, b, e, d, f⟩ := h
  refine ⟨a, by rw [(hf c h0).2.1]; exact b, by rw [(hf c h0).1]; exact e, d, fun v hv => ?_⟩
  rw [(hf _ h1).2.1, (hf _ h2).1, (hf _ h3).1, (hf _ h4).1]
  exact f v hv
theorem isSub.next {Γ : List Sh} {σ : Mem} {c k : Nat} {β : Nat → Option (Nat × Nat × Nat)} (h : isSub Γ σ c k β) (hk : k < 1000000000) : isSub Γ (wI σ c 4 (σ.1 c 4 + 1)) c (k + 1) (fun _ => none) := by
  obtain ⟨a, b, e, d, f⟩ := h
  refine ⟨a, b, by rw [wI_s, e, nI_1], by omega, fun v hv => Or.inl ?_⟩
  rw [wI_o (by omega)]
  rcases f v hv with ⟨j, h1, h2, -⟩ | ⟨h1, -⟩
  · exact ⟨j, by omega, h2, rfl⟩
  · exact ⟨k, by omega, h1, rfl⟩
theorem isSub.set {Γ : List Sh} {σ : Mem} {c k v rr f t : Nat} {β : Nat → Option (Nat × Nat × Nat)} (h : isSub Γ σ c k β) : isSub Γ (wI (wI (wI (wR σ (c + 1) v (some rr)) (c + 2) v (nI f)) (c + 3) v (nI t)) (c + 4) v (nI k)) c k (upN β v (some (rr, f, t))) := by
  obtain ⟨a, b, e, d, g⟩ := h
  refine ⟨a, ?_, ?_, d, fun w hw => ?_⟩
  · show (wR σ (c + 1) v (some rr)).2.1 c 0 = _ ∧ (wR σ (c + 1) v (some rr)).2.1 c 1 = _ ∧ (wR σ (c + 1) v (some rr)).2.1 c 2 = _ ∧ (wR σ (c + 1) v (some rr)).2.1 c 3 = _
    rw [wR_o (by omega)]
    exact b
  · rw [wI_o (by omega), wI_o (by omega), wI_o (by omega)]
    exact e
  · by_cases z : w = v
    · subst z
      refine Or.inr ⟨wI_s, rr, f, t, by simp [upN], ?_, ?_, ?_⟩
      · exact Or.inr wR_s
      · rw [wI_o (by omega), wI_o (by omega), wI_s]
      · rw [wI_o (by omega), wI_s]
    · have e4 : (wI (wI (wI (wR σ (c + 1) v (some rr)) (c + 2) v (nI f)) (c + 3) v (nI t)) (c + 4) v (nI k)).1 (c + 4) w = σ.1 (c + 4) w := by
        rw [wI_j z, wI_o (by omega), wI_o (by omega)]; rfl
      have e3 : (wI (wI (wI (wR σ (c + 1) v (some rr)) (c + 2) v (nI f)) (c + 3) v (nI t)) (c + 4) v (nI k)).1 (c + 3) w = σ.1 (c + 3) w := by
        rw [wI_o (by omega), wI_j z, wI_o (by omega)]; rfl
      have e2 : (wI (wI (wI (wR σ (c + 1) v (some rr)) (c + 2) v (nI f)) (c + 3) v (nI t)) (c + 4) v (nI k)).1 (c + 2) w = σ.1 (c + 2) w := by
        rw [wI_o (by omega), wI_o (by omega), wI_j z]; rfl
      have e1 : (wI (wI (wI (wR σ (c + 1) v (some rr)) (c + 2) v (nI f)) (c + 3) v (nI t)) (c + 4) v (nI k)).2.1 (c + 1) w = σ.2.1 (c + 1) w := wR_j z
      have eb : upN β v (some (rr, f, t)) w = β w := by simp [upN, z]
      rw [e1, e2, e3, e4, eb]
      exact g w hw
theorem isV_in {v : Int32} (h : isV v = true) : vp_in v 100 ∧ v.toNatClampNeg < 100 := by
  have h0 : ¬ v < 0 := fun z => by simp [isV, z] at h
  have h1 : ¬ 100 ≤ v := fun z => by simp [isV, h0, z] at h
  have h2 : v.toNatClampNeg < 100 := Nat.not_le.mp fun z => h1 ((clamp_lt (n := 100) h0 (by decide)).mpr z)
  exact ⟨fun z => z.elim h0 (fun z => absurd z (by omega)), h2⟩
set_option maxRecDepth 10000 in
set_option maxHeartbeats 1000000 in
theorem c_Substitution_begin {G : Ctx} {d : Nat} {Γ : List Sh} {σ : Mem} {Q : Option Value → List Sh → Mem → Prop} {c k : Nat} {β : Nat → Option (Nat × Nat × Nat)} (hS : isSub Γ σ c k β) (hk : k < 1000000000) (hQ : ∀ σ', isSub Γ σ' c (k + 1) (fun _ => none) → FrI [c] σ σ' → Q none Γ σ') : Ct G M_Substitution_begin d 0 0 [rf G c] Γ σ Q := by
  obtain ⟨⟨s1, s2, s3, s4, s5⟩, ⟨r1, r2, r3, r4⟩, sk, sm, sv⟩ := id hS
  refine Ct.of (lv := [some (rf G c)]) (ll := []) rfl rfl (EN.cat (n := 0) ⟨rfl, trivial⟩ (Nat.le_of_ble_eq_true rfl)) ?_
  first | refine x_aload_n d_Substitution_begin_0 rfl rfl ?_ | refine x_aloadN_n d_Substitution_begin_0 rfl rfl ?_ | refine x_aloadE_n d_Substitution_begin_0 rfl rfl ?_
  refine x_dup d_Substitution_begin_1 rfl ?_
  refine x_getI d_Substitution_begin_2 f_Substitution_27 rfl (by assumption) ?_
  refine x_iconst (v := 1) d_Substitution_begin_5 (by decide) ?_
  refine x_iadd d_Substitution_begin_6 ?_
  refine x_putI d_Substitution_begin_7 (w_Substitution_m_27 _) rfl (by first | rfl | decide) (by first | rfl | decide) (by assumption) ?_
  exact x_return d_Substitution_begin_10 rfl (hQ _ (hS.next hk) (FrI.rf.put (by simp)))
set_option maxRecDepth 10000 in
set_option maxHeartbeats 1000000 in
theorem c_Substitution_bind {G : Ctx} {d : Nat} {Γ : List Sh} {σ : Mem} {Q : Option Value → List Sh → Mem → Prop} {c k rr f t m : Nat} {v : Int32} {os : List Int32} {β : Nat → Option (Nat × Nat × Nat)} (hS : isSub Γ σ c k β) (hO : isRow Γ σ rr m os) (hv : isV v = true) (hQ : ∀ σ', isSub Γ σ' c k (upN β v.toNatClampNeg (some (rr, f, t))) → Fr [c + 1, c + 2, c + 3, c + 4] σ σ' → Q none Γ σ') : Ct G M_Substitution_bind (d + 1) 0 0 [rf G c, .int v, rf G rr, .int (nI f), .int (nI t)] Γ σ Q := by
  obtain ⟨⟨s1, s2, s3, s4, s5⟩, ⟨r1, r2, r3, r4⟩, sk, sm, sv⟩ := id hS
  obtain ⟨o1, o2, o3, o4, o5, o6, o7⟩ := id hO
  refine Ct.of (lv := [some (rf G c), some (.int v), some (rf G rr), some (.int (nI f)), some (.int (nI t))]) (ll := []) rfl rfl (EN.cat (n := 0) ⟨rfl, rfl, rfl, rfl, rfl, trivial⟩ (Nat.le_of_ble_eq_true rfl)) ?_
  refine x_iload_n d_Substitution_bind_0 rfl rfl ?_
  refine x_callSN1 d_Substitution_bind_1 k_SD_isVariable ln_Substitution_31 z_SD_isVariable RoomE.m (Nat.le_of_ble_eq_true rfl) (c_SD_isVariable ?_)
  refine x_if_eq (tgt := 39) d_Substitution_bind_4 (by decide) (fun c4 => ?_) (fun c4 => ?_)
  · rw [hv] at c4; exact absurd c4 (by decide)
  · first | refine x_aload_n d_Substitution_bind_7 rfl rfl ?_ | refine x_aloadN_n d_Substitution_bind_7 rfl rfl ?_ | refine x_aloadE_n d_Substitution_bind_7 rfl rfl ?_
    refine x_getR d_Substitution_bind_8 f_Substitution_11 rfl (by assumption) (by assumption) ?_
    refine x_iload_n d_Substitution_bind_11 rfl rfl ?_
    first | refine x_aload_n d_Substitution_bind_12 rfl rfl ?_ | refine x_aloadN_n d_Substitution_bind_12 rfl rfl ?_ | refine x_aloadE_n d_Substitution_bind_12 rfl rfl ?_
    refine x_aast d_Substitution_bind_13 (by assumption) (by decide) (by assumption) rfl rfl ((isV_in hv).1) ?_
    first | refine x_aload_n d_Substitution_bind_14 rfl rfl ?_ | refine x_aloadN_n d_Substitution_bind_14 rfl rfl ?_ | refine x_aloadE_n d_Substitution_bind_14 rfl rfl ?_
    refine x_getR d_Substitution_bind_15 f_Substitution_17 rfl (by assumption) ((congrFun (wR_o (show c ≠ c + 1 by omega)) 1).trans r2) ?_
    refine x_iload_n d_Substitution_bind_18 rfl rfl ?_
    refine x_iload_n d_Substitution_bind_19 rfl rfl ?_
    refine x_iast d_Substitution_bind_20 (by assumption) ((isV_in hv).1) ?_
    first | refine x_aload_n d_Substitution_bind_21 rfl rfl ?_ | refine x_aloadN_n d_Substitution_bind_21 rfl rfl ?_ | refine x_aloadE_n d_Substitution_bind_21 rfl rfl ?_
    refine x_getR d_Substitution_bind_22 f_Substitution_21 rfl (by assumption) ((congrFun (wR_o (show c ≠ c + 1 by omega)) 2).trans r3) ?_
    refine x_iload_n d_Substitution_bind_25 rfl rfl ?_
    refine x_iload d_Substitution_bind_26 rfl ?_
    refine x_iast d_Substitution_bind_28 (by assumption) ((isV_in hv).1) ?_
    first | refine x_aload_n d_Substitution_bind_29 rfl rfl ?_ | refine x_aloadN_n d_Substitution_bind_29 rfl rfl ?_ | refine x_aloadE_n d_Substitution_bind_29 rfl rfl ?_
    refine x_getR d_Substitution_bind_30 f_Substitution_24 rfl (by assumption) ((congrFun (wR_o (show c ≠ c + 1 by omega)) 3).trans r4) ?_
    refine x_iload_n d_Substitution_bind_33 rfl rfl ?_
    first | refine x_aload_n d_Substitution_bind_34 rfl rfl ?_ | refine x_aloadN_n d_Substitution_bind_34 rfl rfl ?_ | refine x_aloadE_n d_Substitution_bind_34 rfl rfl ?_
    refine x_getI d_Substitution_bind_35 f_Substitution_27 rfl (by assumption) ?_
    refine x_iast d_Substitution_bind_38 (by assumption) ((isV_in hv).1) ?_
    exact x_return d_Substitution_bind_39 rfl (by
      refine hQ _ ?_ ((((Fr.rf.wR (by simp)).wI (by simp)).wI (by simp)).wI (by simp))
      rw [wI_o (by omega), wI_o (by omega)]
      show isSub Γ (wI _ (c + 4) _ (σ.1 c 4)) c k _
      rw [sk]
      exact hS.set)
/-- what a sign becomes -/
def sub1 (β : Nat → Option (Nat × Nat × Nat)) (B : Nat → List Int32) (s : Int32) : List Int32 := if isV s then (match β s.toNatClampNeg with
  | some _ => B s.toNatClampNeg
  | none => [s]) else [s]
def bdOK (Γ : List Sh) (σ : Mem) (rt : Nat) (β : Nat → Option (Nat × Nat × Nat)) (B : Nat → List Int32) : Prop := ∀ v rr f t, v < 100 → β v = some (rr, f, t) → rr ≠ rt ∧ f ≤ 1000000 ∧ t ≤ 1000000 ∧ ∃ m os, isRow Γ σ rr m os ∧ B v = ((os.take m).take t).drop f
theorem bdOK.fr {Γ : List Sh} {σ σ' : Mem} {rt nt : Nat} {ws : List Int32} {β : Nat → Option (Nat × Nat × Nat)} {B : Nat → List Int32} (h : bdOK Γ σ rt β B) (hT : isRow Γ σ rt nt ws) (hf : FrI [rt, rt + 1] σ σ') : bdOK Γ σ' rt β B := by
  intro v rr f t hv hb
  obtain ⟨a, b, c, m, os, d, e⟩ := h v rr f t hv hb
  exact ⟨a, b, c, m, os, d.fr2 hT hf a, e⟩
set_option maxRecDepth 10000 in
set_option maxHeartbeats 1000000 in
theorem c_Substitution_apply {G : Ctx} {d : Nat} {Γ : List Sh} {σ : Mem} {Q : Option Value → List Sh → Mem → Prop} {c k rp np rt nt : Nat} {ps ys : List Int32} {β : Nat → Option (Nat × Nat × Nat)} {B : Nat → List Int32} (hS : isSub Γ σ c k β) (hP : isRow Γ σ rp np ps) (hT : isRow Γ σ rt nt ys) (hpt : rp ≠ rt) (hdis : rt + 1 < c ∨ c + 4 < rt) (hB : bdOK Γ σ rt β B) (hQ : ∀ σ', isRow Γ σ' rt nt (ys ++ (ps.take np).flatMap (sub1 β B)) → FrI [rt, rt + 1] σ σ' → Q none Γ σ') : Ct G M_Substitution_apply (d + 2) 0 0 [rf G c, rf G rp, rf G rt] Γ σ Q := by
  have htl := hP.tl
  have lp : ∀ (k9 : Nat) (i : Nat) (τ : Mem) (ws : List Int32), i ≤ (ps.take np).length → (ps.take np).length + 1 ≤ i + k9 → FrI [rt, rt + 1] σ τ → isRow Γ τ rt nt ws → ws ++ ((ps.take np).drop i).flatMap (sub1 β B) = ys ++ (ps.take np).flatMap (sub1 β B) → Wq G M_Substitution_apply (Em G (d + 2) 0 0 Q) 0 0 2 [some (rf G c), some (rf G rp), some (rf G rt), some (.int (nI i)), none] [] [] Γ τ := by
    intro k9
    induction k9 with
    | zero =>
      intro i τ ws h1 h2; omega
    | succ k9 ih =>
      intro i τ ws h1 h2 f0 hT1 h4
      have hS1 := hS.Fr f0.fr (by simp; omega) (by simp; omega) (by simp; omega) (by simp; omega) (by simp; omega)
      have hP1 := hP.fr2 hT f0 hpt
      have hB1 := hB.fr hT f0
      obtain ⟨⟨t1, t2, t3, t4, t5⟩, ⟨q1, q2, q3, q4⟩, tk, tm, tv⟩ := id hS1
      obtain ⟨b1, b2, b3, b4, b5, b6, b7⟩ := id hT1
      obtain ⟨p1, p2, p3, p4, p5, p6, p7⟩ := id hP1
      refine x_iload_n d_Substitution_apply_2 rfl rfl ?_
      first | refine x_aload_n d_Substitution_apply_3 rfl rfl ?_ | refine x_aloadN_n d_Substitution_apply_3 rfl rfl ?_ | refine x_aloadE_n d_Substitution_apply_3 rfl rfl ?_
      refine x_callV0 d_Substitution_apply_4 k_Row_length l_Substitution_35 v_Row_length rfl s_Row_length (by assumption) RoomE.m (Nat.le_of_ble_eq_true rfl) (c_Row_length hP1 ?_)
      refine x_icmp_ge (tgt := 96) d_Substitution_apply_7 (by decide) (fun c7 => ?_) (fun c7 => ?_)
      · exact x_return d_Substitution_apply_96 rfl (by
          have hil : (ps.take np).length ≤ i := by rw [nI_leI (by omega) (by omega)] at c7; exact c7
          rw [List.drop_eq_nil_of_le hil, List.flatMap_nil, List.append_nil] at h4
          rw [h4] at hT1
          exact hQ _ hT1 f0)
      · have hil : i < (ps.take np).length := Nat.not_le.mp fun z => c7 (nI_le z (by omega))
        first | refine x_aload_n d_Substitution_apply_10 rfl rfl ?_ | refine x_aloadN_n d_Substitution_apply_10 rfl rfl ?_ | refine x_aloadE_n d_Substitution_apply_10 rfl rfl ?_
        refine x_callV0 d_Substitution_apply_11 k_Row_isTooLong l_Substitution_39 v_Row_isTooLong rfl s_Row_isTooLong (by assumption) RoomE.m (Nat.le_of_ble_eq_true rfl) (c_Row_isTooLong hT1 ?_)
        refine x_if_ne (tgt := 96) d_Substitution_apply_14 (by decide) (fun c14 => ?_) (fun c14 => ?_)
        · exact x_return d_Substitution_apply_96 rfl (by
            have hl : nt < ws.length := of_decide_eq_true (bI_n0 c14)
            have h6 := hT1.more (zs := ((ps.take np).drop i).flatMap (sub1 β B)) hl
            rw [h4] at h6
            exact hQ _ h6 f0)
        · first | refine x_aload_n d_Substitution_apply_17 rfl rfl ?_ | refine x_aloadN_n d_Substitution_apply_17 rfl rfl ?_ | refine x_aloadE_n d_Substitution_apply_17 rfl rfl ?_
          refine x_iload_n d_Substitution_apply_18 rfl rfl ?_
          refine x_callV1 d_Substitution_apply_19 k_Row_at l_Substitution_43 v_Row_at rfl s_Row_at (by assumption) RoomE.m (Nat.le_of_ble_eq_true rfl) (c_Row_at hP1 ?_)
          rw [atI_nI (by omega)]
          refine x_istore d_Substitution_apply_22 rfl ?_
          refine x_iload d_Substitution_apply_24 rfl ?_
          refine x_callSN1 d_Substitution_apply_26 k_SD_isVariable ln_Substitution_31 z_SD_isVariable RoomE.m (Nat.le_of_ble_eq_true rfl) (c_SD_isVariable ?_)
          refine x_if_eq (tgt := 84) d_Substitution_apply_29 (by decide) (fun c29 => ?_) (fun c29 => ?_)
          · first | refine x_aload_n d_Substitution_apply_84 rfl rfl ?_ | refine x_aloadN_n d_Substitution_apply_84 rfl rfl ?_ | refine x_aloadE_n d_Substitution_apply_84 rfl rfl ?_
            refine x_iload d_Substitution_apply_85 rfl ?_
            refine x_callV1 d_Substitution_apply_87 k_Row_add l_Substitution_51 v_Row_add rfl s_Row_add (by assumption) RoomE.m (Nat.le_of_ble_eq_true rfl) (c_Row_add hT1 (fun τ2 h5 f2 => ?_))
            refine x_iinc (v := nI (i + 1)) d_Substitution_apply_90 rfl (nI_1 i) rfl ?_
            refine x_goto (tgt := 2) d_Substitution_apply_93 (by decide) ?_
            exact Wq.fg (ih (i + 1) τ2 _ (by omega) (by omega) (f0.tr f2) h5 (by
              rw [drop_cons hil, List.flatMap_cons, ← List.append_assoc] at h4
              rw [← h4]
              congr 2
              rw [sub1, bI_0 c29, if_neg (by decide)])) ⟨rfl, rfl, rfl, rfl, trivial⟩
          · have hin := (isV_in (bI_n0 c29)).1
            rcases tv _ (isV_in (bI_n0 c29)).2 with ⟨jj, hj1, hj2, hj3⟩ | ⟨hj2, rr, ff, tt, hj3, hj4, hj5, hj6⟩
            · first | refine x_aload_n d_Substitution_apply_32 rfl rfl ?_ | refine x_aloadN_n d_Substitution_apply_32 rfl rfl ?_ | refine x_aloadE_n d_Substitution_apply_32 rfl rfl ?_
              refine x_getR d_Substitution_apply_33 f_Substitution_24 rfl (by assumption) (by assumption) ?_
              refine x_iload d_Substitution_apply_36 rfl ?_
              refine x_iald d_Substitution_apply_38 (by assumption) ((isV_in (bI_n0 c29)).1) ?_
              first | refine x_aload_n d_Substitution_apply_39 rfl rfl ?_ | refine x_aloadN_n d_Substitution_apply_39 rfl rfl ?_ | refine x_aloadE_n d_Substitution_apply_39 rfl rfl ?_
              refine x_getI d_Substitution_apply_40 f_Substitution_27 rfl (by assumption) ?_
              refine x_icmp_ne (tgt := 84) d_Substitution_apply_43 (by decide) (fun c43 => ?_) (fun c43 => ?_)
              · first | refine x_aload_n d_Substitution_apply_84 rfl rfl ?_ | refine x_aloadN_n d_Substitution_apply_84 rfl rfl ?_ | refine x_aloadE_n d_Substitution_apply_84 rfl rfl ?_
                refine x_iload d_Substitution_apply_85 rfl ?_
                refine x_callV1 d_Substitution_apply_87 k_Row_add l_Substitution_51 v_Row_add rfl s_Row_add (by assumption) RoomE.m (Nat.le_of_ble_eq_true rfl) (c_Row_add hT1 (fun τ2 h5 f2 => ?_))
                refine x_iinc (v := nI (i + 1)) d_Substitution_apply_90 rfl (nI_1 i) rfl ?_
                refine x_goto (tgt := 2) d_Substitution_apply_93 (by decide) ?_
                exact Wq.fg (ih (i + 1) τ2 _ (by omega) (by omega) (f0.tr f2) h5 (by
                  rw [drop_cons hil, List.flatMap_cons, ← List.append_assoc] at h4
                  rw [← h4]
                  congr 2
                  rw [sub1, if_pos (bI_n0 c29), hj3])) ⟨rfl, rfl, rfl, rfl, trivial⟩
              · have c44 : nI jj = nI k := by rw [← hj2, ← tk]; exact c43
                exact absurd ((nI_eq (by omega) (by omega)).mp c44) (by omega)
            · first | refine x_aload_n d_Substitution_apply_32 rfl rfl ?_ | refine x_aloadN_n d_Substitution_apply_32 rfl rfl ?_ | refine x_aloadE_n d_Substitution_apply_32 rfl rfl ?_
              refine x_getR d_Substitution_apply_33 f_Substitution_24 rfl (by assumption) (by assumption) ?_
              refine x_iload d_Substitution_apply_36 rfl ?_
              refine x_iald d_Substitution_apply_38 (by assumption) ((isV_in (bI_n0 c29)).1) ?_
              first | refine x_aload_n d_Substitution_apply_39 rfl rfl ?_ | refine x_aloadN_n d_Substitution_apply_39 rfl rfl ?_ | refine x_aloadE_n d_Substitution_apply_39 rfl rfl ?_
              refine x_getI d_Substitution_apply_40 f_Substitution_27 rfl (by assumption) ?_
              refine x_icmp_ne (tgt := 84) d_Substitution_apply_43 (by decide) (fun c43 => ?_) (fun c43 => ?_)
              · exact absurd (by rw [hj2, tk]) c43
              · have hj4 := Or.resolve_left hj4 (fun z => by
                  obtain ⟨_, _, _, mm, oo, hrr, _⟩ := hB1 _ _ _ _ (isV_in (bI_n0 c29)).2 hj3
                  have h1 := hrr.1
                  rw [z, t1] at h1
                  cases h1)
                first | refine x_aload_n d_Substitution_apply_46 rfl rfl ?_ | refine x_aloadN_n d_Substitution_apply_46 rfl rfl ?_ | refine x_aloadE_n d_Substitution_apply_46 rfl rfl ?_
                refine x_getR d_Substitution_apply_47 f_Substitution_11 rfl (by assumption) (by assumption) ?_
                refine x_iload d_Substitution_apply_50 rfl ?_
                refine x_aald d_Substitution_apply_52 (by assumption) (by decide) ((isV_in (bI_n0 c29)).1) (hj4) ?_
                refine x_ifnull d_Substitution_apply_53 ?_
                obtain ⟨hne2, hf6, ht6, mm, oo, hrr, hBv⟩ := hB1 _ _ _ _ (isV_in (bI_n0 c29)).2 hj3
                have ef : τ.1 (c + 2) ((ps.take np).getD i (-1)).toNatClampNeg = nI ff := hj5
                have et : τ.1 (c + 3) ((ps.take np).getD i (-1)).toNatClampNeg = nI tt := hj6
                have hrs := hrr.1
                first | refine x_aload_n d_Substitution_apply_56 rfl rfl ?_ | refine x_aloadN_n d_Substitution_apply_56 rfl rfl ?_ | refine x_aloadE_n d_Substitution_apply_56 rfl rfl ?_
                first | refine x_aload_n d_Substitution_apply_57 rfl rfl ?_ | refine x_aloadN_n d_Substitution_apply_57 rfl rfl ?_ | refine x_aloadE_n d_Substitution_apply_57 rfl rfl ?_
                refine x_getR d_Substitution_apply_58 f_Substitution_11 rfl (by assumption) (by assumption) ?_
                refine x_iload d_Substitution_apply_61 rfl ?_
                refine x_aald d_Substitution_apply_63 (by assumption) (by decide) (by assumption) (by assumption) ?_
                first | refine x_aload_n d_Substitution_apply_64 rfl rfl ?_ | refine x_aloadN_n d_Substitution_apply_64 rfl rfl ?_ | refine x_aloadE_n d_Substitution_apply_64 rfl rfl ?_
                refine x_getR d_Substitution_apply_65 f_Substitution_17 rfl (by assumption) (by assumption) ?_
                refine x_iload d_Substitution_apply_68 rfl ?_
                refine x_iald d_Substitution_apply_70 (by assumption) (by assumption) ?_
                first | refine x_aload_n d_Substitution_apply_71 rfl rfl ?_ | refine x_aloadN_n d_Substitution_apply_71 rfl rfl ?_ | refine x_aloadE_n d_Substitution_apply_71 rfl rfl ?_
                refine x_getR d_Substitution_apply_72 f_Substitution_21 rfl (by assumption) (by assumption) ?_
                refine x_iload d_Substitution_apply_75 rfl ?_
                refine x_iald d_Substitution_apply_77 (by assumption) (by assumption) ?_
                refine x_callV3 d_Substitution_apply_78 k_Row_addRange l_Substitution_47 v_Row_addRange rfl s_Row_addRange (by assumption) RoomE.m (Nat.le_of_ble_eq_true rfl) (c_Row_addRange' ef et hT1 hrr hne2 hf6 ht6 (fun τ2 h5 f2 => ?_))
                refine x_goto (tgt := 90) d_Substitution_apply_81 (by decide) ?_
                refine x_iinc (v := nI (i + 1)) d_Substitution_apply_90 rfl (nI_1 i) rfl ?_
                refine x_goto (tgt := 2) d_Substitution_apply_93 (by decide) ?_
                exact Wq.fg (ih (i + 1) τ2 _ (by omega) (by omega) (f0.tr f2) h5 (by
                  rw [drop_cons hil, List.flatMap_cons, ← List.append_assoc] at h4
                  rw [← h4]
                  congr 2
                  rw [sub1, if_pos (bI_n0 c29), hj3]; exact hBv.symm)) ⟨rfl, rfl, rfl, rfl, trivial⟩
  refine Ct.of (lv := [some (rf G c), some (rf G rp), some (rf G rt), none, none]) (ll := []) rfl rfl (EN.cat (n := 2) ⟨rfl, rfl, rfl, trivial⟩ (Nat.le_of_ble_eq_true rfl)) ?_
  refine x_iconst (v := 0) d_Substitution_apply_0 (by decide) ?_
  refine x_istore_n d_Substitution_apply_1 rfl rfl ?_
  exact lp ((ps.take np).length + 1) 0 σ ys (Nat.zero_le _) (by omega) FrI.rf hT rfl
