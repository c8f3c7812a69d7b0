/-! SuperDriverModel: forget, function, goal, input, body -/
theorem trm_c {P : Int32 → Int32} {x m : Int32} {l : List Int32} : trm P (x :: l) m = if m = 0 then false else if (isC x && decide (P x = 0)) = true then false else trm P l (m + (P x - 1)) := rfl
theorem okv_n {lim : Int32} {k : Nat} (h : k < 2000000) : okv lim (nI k) = if k < 100 then decide (nI k < lim) else true := by
  unfold okv
  rw [isV_n h]
  by_cases z : k < 100
  · rw [if_pos (decide_eq_true z), if_pos z]
  · rw [if_neg (by rw [decide_eq_false z]; decide), if_neg z]
theorem nI_z {m : Nat} (h : m < 2000000) : nI m = 0 ↔ m = 0 := ⟨fun z => nI_inj (show nI m = nI 0 by rw [z, nI_0]) h (by omega), fun z => by rw [z, nI_0]⟩
theorem itm_trm {pt : Nat → Int32} {cs : Nat → Bool} {σ : Mem} {lim : Int32} (hS : SW pt cs) (hp : ∀ f, f < 8 → σ.1 393 f = pt (200 + f)) : ∀ {zs : List Int32} {m : Nat}, al tA zs → m + 60 * zs.length ≤ 100000 → itm (knw lim true σ) (nP (sgP pt)) zs m = (zs.all (okv lim) && trm (sgP pt) zs (nI m))
  | [], m, _, hm => by
    show decide (m = 0) = (true && decide (nI m = 0))
    rw [Bool.true_and]
    exact decide_eq_decide.mpr (nI_z (by omega)).symm
  | s :: l, m, ha, hm => by
    obtain ⟨k, hk4, rfl, hA⟩ := ha s List.mem_cons_self
    rw [List.length_cons] at hm
    have hq := hS.ok.1.le (nI k)
    have ih := itm_trm (lim := lim) hS hp (zs := l) (m := m - 1 + nP (sgP pt) (nI k)) (fun t ht => ha t (List.mem_cons_of_mem _ ht)) (by omega)
    show (knw lim true σ (nI k).toNatClampNeg && decide (0 < m) && itm (knw lim true σ) (nP (sgP pt)) l (m - 1 + nP (sgP pt) (nI k))) = ((okv lim (nI k) && l.all (okv lim)) && trm (sgP pt) (nI k :: l) (nI m))
    rw [nI_clamp (by omega), ih, trm_c, okv_n (by omega), isC_n (by omega)]
    by_cases hm0 : m = 0
    · rw [hm0, nI_0, if_pos rfl, decide_eq_false (Nat.lt_irrefl 0)]
      simp
    · have e : nI m + (sgP pt (nI k) - 1) = nI (m - 1 + nP (sgP pt) (nI k)) := by
        rw [hq.2, nI_ap1 (by omega)]
        exact congrArg nI (by omega)
      rw [if_neg (fun z => hm0 ((nI_z (by omega)).mp z)), decide_eq_true (Nat.pos_of_ne_zero hm0), Bool.and_true, e]
      generalize trm (sgP pt) l (nI (m - 1 + nP (sgP pt) (nI k))) = R
      generalize l.all (okv lim) = L
      unfold knw
      rcases hA with hA | hA | hA
      · rw [if_pos (show k < 100 by omega), if_pos (show k < 100 by omega), decide_eq_false (show ¬ 200 ≤ k by omega), Bool.false_and, if_neg (by decide), Bool.and_assoc]
      · rw [if_neg (show ¬ k < 100 by omega), if_neg (show ¬ k < 100 by omega), decide_eq_false (show ¬ 200 ≤ k by omega), Bool.false_and, if_neg (by decide), decide_eq_true (show k < 200 by omega), Bool.true_or, Bool.and_assoc]
      · have hpk := hp (k - 200) (by omega)
        rw [show 200 + (k - 200) = k by omega] at hpk
        obtain ⟨j, hj, ej⟩ := hS.2.2.2.1 (k - 200) (by omega)
        rw [show 200 + (k - 200) = k by omega] at ej
        rw [if_neg (show ¬ k < 100 by omega), if_neg (show ¬ k < 100 by omega), decide_eq_true (show 200 ≤ k by omega), decide_eq_false (show ¬ k < 200 by omega), Bool.true_and, Bool.true_and, Bool.false_or, Bool.true_and, sgP_n (by omega), hpk, ej]
        by_cases hj0 : j = 0
        · rw [hj0, nI_0, decide_eq_true (show (0 : Int32) = 0 from rfl), if_pos rfl, decide_eq_false (show ¬ (0 : Int32) < 0 by decide), Bool.false_and, Bool.and_false]
        · have hz : ¬ nI j = 0 := fun z => hj0 ((nI_z (by omega)).mp z)
          have hp0 : (0 : Int32) < nI j := by
            have := nI_lt (a := 0) (b := j) (by omega) (by omega)
            rw [nI_0] at this
            exact this
          rw [decide_eq_false hz, if_neg (show ¬ false = true by decide), decide_eq_true hp0, Bool.true_and]
theorem itm_inp {pt : Nat → Int32} {cs : Nat → Bool} {σ : Mem} (hS : SW pt cs) : ∀ {zs : List Int32} {m : Nat}, al tA zs → m + 60 * zs.length ≤ 100000 → itm (knw 0 false σ) (nP (sgP pt)) zs m = (zs.all isK && trm (sgP pt) zs (nI m))
  | [], m, _, hm => by
    show decide (m = 0) = (true && decide (nI m = 0))
    rw [Bool.true_and]
    exact decide_eq_decide.mpr (nI_z (by omega)).symm
  | s :: l, m, ha, hm => by
    obtain ⟨k, hk4, rfl, hA⟩ := ha s List.mem_cons_self
    rw [List.length_cons] at hm
    have hq := hS.ok.1.le (nI k)
    have ih := itm_inp (σ := σ) hS (zs := l) (m := m - 1 + nP (sgP pt) (nI k)) (fun t ht => ha t (List.mem_cons_of_mem _ ht)) (by omega)
    show (knw 0 false σ (nI k).toNatClampNeg && decide (0 < m) && itm (knw 0 false σ) (nP (sgP pt)) l (m - 1 + nP (sgP pt) (nI k))) = ((isK (nI k) && l.all isK) && trm (sgP pt) (nI k :: l) (nI m))
    rw [nI_clamp (by omega), ih, isK_n (by omega), trm_c, isC_n (by omega)]
    by_cases hm0 : m = 0
    · rw [hm0, nI_0, if_pos rfl, decide_eq_false (Nat.lt_irrefl 0)]
      simp
    · have e : nI m + (sgP pt (nI k) - 1) = nI (m - 1 + nP (sgP pt) (nI k)) := by
        rw [hq.2, nI_ap1 (by omega)]
        exact congrArg nI (by omega)
      rw [if_neg (fun z => hm0 ((nI_z (by omega)).mp z)), decide_eq_true (Nat.pos_of_ne_zero hm0), Bool.and_true, e]
      generalize trm (sgP pt) l (nI (m - 1 + nP (sgP pt) (nI k))) = R
      generalize l.all isK = L
      unfold knw
      rcases hA with hA | hA | hA
      · rw [if_pos (show k < 100 by omega), decide_eq_false (show ¬ nI k < 0 from nI_pos (by omega)), decide_eq_false (show ¬ (100 ≤ k ∧ k < 106) by omega), Bool.false_and, Bool.false_and, Bool.false_and]
      · rw [if_neg (show ¬ k < 100 by omega), decide_eq_true (show k < 200 by omega), decide_eq_true (show 100 ≤ k ∧ k < 106 from hA), decide_eq_false (show ¬ 200 ≤ k by omega), Bool.false_and, Bool.false_and, if_neg (show ¬ false = true by decide), Bool.true_or, Bool.and_assoc]
      · rw [if_neg (show ¬ k < 100 by omega), decide_eq_false (show ¬ k < 200 by omega), decide_eq_false (show ¬ (100 ≤ k ∧ k < 106) by omega), Bool.false_and, Bool.false_and, Bool.false_or, Bool.false_and, Bool.false_and]
theorem mPk_eq {pt : Nat → Int32} {cs : Nat → Bool} {σ : Mem} (hS : SW pt cs) (hp : ∀ f, f < 8 → σ.1 393 f = pt (200 + f)) {k : Nat} (hk : k < 208) (hA : k < 100 ∨ (100 ≤ k ∧ k < 106) ∨ 200 ≤ k) : mPk σ k = sgP pt (nI k) := by
  unfold mPk
  rw [sgP_n (by omega)]
  rcases hA with hA | hA | hA
  · rw [if_pos hA, hS.2.1 k hA]
  · rw [if_neg (by omega), if_neg (by omega), if_pos (by omega)]
    obtain ⟨c, rfl⟩ : ∃ c, k = 100 + c := ⟨k - 100, by omega⟩
    have hc : c < 6 := by omega
    rw [hS.2.2.1 c hc]
    match c, hc with
    | 0, _ => decide
    | 1, _ => decide
    | 2, _ => decide
    | 3, _ => decide
    | 4, _ => decide
    | 5, _ => decide
  · rw [if_neg (by omega), if_neg (by omega), if_neg (by omega), if_pos (by omega), hp (k - 200) (by omega), show 200 + (k - 200) = k by omega]
theorem pAll_of {pt : Nat → Int32} {cs : Nat → Bool} {σ : Mem} {zs : List Int32} {A : Nat → Prop} (hS : SW pt cs) (hp : ∀ f, f < 8 → σ.1 393 f = pt (200 + f)) (ha : al A zs) (hA : ∀ k, k ≤ 400 → A k → k < 208 ∧ (k < 100 ∨ (100 ≤ k ∧ k < 106) ∨ 200 ≤ k)) : pAll σ (nP (sgP pt)) zs := fun s hs => by
  obtain ⟨k, h1, rfl, h3⟩ := ha s hs
  have h4 := hA k h1 h3
  have hq := hS.ok.1.le (nI k)
  exact ⟨k, rfl, Or.inl h4.1, by rw [mPk_eq hS hp h4.1 h4.2]; exact hq.2, hq.1⟩
theorem tA_k (k : Nat) (_ : k ≤ 400) (h : tA k) : k < 208 ∧ (k < 100 ∨ (100 ≤ k ∧ k < 106) ∨ 200 ≤ k) := by unfold tA at h; omega
theorem gA_k {pt : Nat → Int32} {V : Nat} (k : Nat) (_ : k ≤ 400) (h : gA pt V k) : k < 208 ∧ (k < 100 ∨ (100 ≤ k ∧ k < 106) ∨ 200 ≤ k) := by unfold gA at h; omega
theorem okv8 {zs : List Int32} (h : al tA zs) : zs.all (okv 8) = true := by
  rw [List.all_eq_true]
  intro s hs
  obtain ⟨k, h1, rfl, h3⟩ := h s hs
  unfold okv
  rw [isV_n (by omega)]
  by_cases z : k < 100
  · rw [if_pos (decide_eq_true z)]
    exact decide_eq_true (show nI k < nI 8 from nI_lt (by unfold tA at h3; omega) (by decide))
  · rw [if_neg (by rw [decide_eq_false z]; decide)]
theorem isMC.mk' {σ τ : Mem} {X : CS} {S : List Nat} (h : isMC σ X) (hf : FrI S σ τ) (h1 : 391 ∉ S) (h2 : ∀ a ∈ S, 400 ≤ a ∧ a ≤ 424) : isMC τ X := h.cg (fun a x y => hf.2 a (fun z => by have := h2 a z; omega)) (hf.2 425 (fun z => by have := h2 _ z; omega)) (by rw [hf.2 391 h1]) (by rw [hf.2 391 h1]) (by rw [hf.2 391 h1]) (by rw [hf.2 391 h1]) (by rw [hf.2 391 h1])
set_option maxRecDepth 10000 in
set_option maxHeartbeats 1000000 in
theorem c_Mo_goal {G : Ctx} {d : Nat} {Γ : List Sh} {σ : Mem} {Q : Option Value → List Sh → Mem → Prop} {X : CS} (hM : MoS Γ σ) (hX : isMC σ X) (hW : csW X) (hE : trm (sgP (kP X)) (kT X) 1 = false → Q none Γ (wI σ 391 0 1)) (hQ1 : trm (sgP (kP X)) (kT X) 1 = true → ∀ σ', isMC σ' (csGl X) → σ'.1 391 11 = 0 → σ'.1 391 0 = 0 → FrM σ σ' → Q none Γ σ') : Ct G M_Mo_goal (d + 3) 0 0 [rf G 391] Γ σ Q := by
  have hpp : ∀ f, f < 8 → σ.1 393 f = kP X (200 + f) := fun f hf => (hX.2.1 f hf).1
  have hpa := pAll_of hW.2.1 hpp hW.1.1 tA_k
  refine Ct.of (lv := [some (rf G 391)]) (ll := []) rfl rfl (EN.cat (n := 0) ⟨rfl, trivial⟩ (Nat.le_of_ble_eq_true rfl)) ?_
  first | refine x_aload_n d_Mo_goal_0 rfl rfl ?_ | refine x_aloadN_n d_Mo_goal_0 rfl rfl ?_ | refine x_aloadE_n d_Mo_goal_0 rfl rfl ?_ | refine x_aloadO_n d_Mo_goal_0 rfl rfl ?_
  first | refine x_aload_n d_Mo_goal_1 rfl rfl ?_ | refine x_aloadN_n d_Mo_goal_1 rfl rfl ?_ | refine x_aloadE_n d_Mo_goal_1 rfl rfl ?_ | refine x_aloadO_n d_Mo_goal_1 rfl rfl ?_
  refine x_bipush (v := 8) d_Mo_goal_2 (by decide) ?_
  refine x_iconst (v := 1) d_Mo_goal_4 (by decide) ?_
  refine x_callV2 d_Mo_goal_5 k_Mo_isTerm l_Mo_149 v_Mo_isTerm rfl s_Mo_isTerm (by first | exact hM.1 | exact hM.s rfl | assumption) RoomE.m (Nat.le_of_ble_eq_true rfl) (c_Mo_isTerm (lim := 8) (fn := true) hM hX.1.1 hX.1.2 hW.1.2 hW.1.1 hpa ?_)
  have e1 : itm (knw 8 true σ) (nP (sgP (kP X))) (kT X) 1 = trm (sgP (kP X)) (kT X) 1 := by
    rw [itm_trm hW.2.1 hpp hW.1.1 (by have := hW.1.2; omega), okv8 hW.1.1, Bool.true_and]; rfl
  refine x_if_ne (tgt := 15) d_Mo_goal_8 (by decide) (fun c8 => ?_) (fun c8 => ?_)
  · refine x_iconst (v := 0) d_Mo_goal_15 (by decide) ?_
    refine x_iconst (v := 0) d_Mo_goal_16 (by decide) ?_
    refine x_callV2 d_Mo_goal_17 k_Mo_throwing l_Mo_145 v_Mo_throwing rfl s_Mo_throwing (by first | exact hM.1 | exact hM.s rfl | assumption) RoomE.m (Nat.le_of_ble_eq_true rfl) (c_Mo_throwing (a := false) (b := false) hM ?_)
    refine x_if_eq (tgt := 24) d_Mo_goal_20 (by decide) (fun c20 => ?_) (fun c20 => ?_)
    · first | refine x_aload_n d_Mo_goal_24 rfl rfl ?_ | refine x_aloadN_n d_Mo_goal_24 rfl rfl ?_ | refine x_aloadE_n d_Mo_goal_24 rfl rfl ?_ | refine x_aloadO_n d_Mo_goal_24 rfl rfl ?_
      first | refine x_aload_n d_Mo_goal_25 rfl rfl ?_ | refine x_aloadN_n d_Mo_goal_25 rfl rfl ?_ | refine x_aloadE_n d_Mo_goal_25 rfl rfl ?_ | refine x_aloadO_n d_Mo_goal_25 rfl rfl ?_
      first | refine x_aload_n d_Mo_goal_26 rfl rfl ?_ | refine x_aloadN_n d_Mo_goal_26 rfl rfl ?_ | refine x_aloadE_n d_Mo_goal_26 rfl rfl ?_ | refine x_aloadO_n d_Mo_goal_26 rfl rfl ?_
      refine x_getR d_Mo_goal_27 f_Mo_26 rfl (by first | exact hM.1 | exact hM.s rfl | assumption) (hM.r rfl) ?_
      refine x_iconst (v := 0) d_Mo_goal_30 (by decide) ?_
      refine x_callV2 d_Mo_goal_31 k_Mo_takeText l_Mo_153 v_Mo_takeText rfl s_Mo_takeText (by first | exact hM.1 | exact hM.s rfl | assumption) RoomE.m (Nat.le_of_ble_eq_true rfl) (c_Mo_takeText (a := 0) (zs := kT X) (hM.w (a := 391) (j := 0) (v := 0)) (hM.s rfl) (by decide) (by decide) (by rw [wI_j (by decide)]; exact hX.1.1) (fun i hi => by rw [wI_o (by decide)]; exact hX.1.2 i hi) hW.1.2 (by have := hW.1.2; omega) (by decide) (fun τ1 f1 s1 o1 => ?_))
      have hM := ((hM.w (a := 391) (j := 0) (v := 0)).fr f1)
      refine x_putI d_Mo_goal_34 (w_Mo_m_135 _) rfl (by first | rfl | decide) (by first | rfl | decide) (by first | exact hM.1 | exact hM.s rfl | assumption) ?_
      first | refine x_aload_n d_Mo_goal_37 rfl rfl ?_ | refine x_aloadN_n d_Mo_goal_37 rfl rfl ?_ | refine x_aloadE_n d_Mo_goal_37 rfl rfl ?_ | refine x_aloadO_n d_Mo_goal_37 rfl rfl ?_
      refine x_iconst (v := 0) d_Mo_goal_38 (by decide) ?_
      refine x_putI d_Mo_goal_39 (w_Mo_m_138 _) rfl (by first | rfl | decide) (by first | rfl | decide) (by first | exact hM.1 | exact hM.s rfl | assumption) ?_
      exact x_return d_Mo_goal_42 rfl (hQ1 (by rw [← e1]; exact bI_n0 c8) _ (by
        have z := hX.thr (t := 0)
        refine ⟨⟨?_, seg.nil⟩, fun f hf => ?_, fun f c hf hc => ?_, ⟨?_, fun i hi => ?_⟩, fun w hw => ?_, ?_, ?_, fun hE => ?_⟩
        · rw [wI_j (by decide), wI_j (by decide), wI_s]; rfl
        · rw [wI_o (by decide), wI_o (by decide), wI_o (by decide), wI_o (by decide), wI_o (by decide), wI_o (by decide), f1.2 _ (by simp), f1.2 _ (by simp)]; exact z.2.1 f hf
        · refine ⟨?_, fun i hi => ?_⟩
          · rw [wI_o (by decide), wI_o (by decide), wI_o (by decide), f1.2 _ (by simp)]; exact (z.2.2.1 f c hf hc).1
          · rw [wI_o (by decide), wI_o (by decide), wI_o (by decide), f1.2 _ (by simp)]; exact (z.2.2.1 f c hf hc).2 i hi
        · rw [wI_j (by decide), wI_s]; rfl
        · rw [wI_o (by decide), wI_o (by decide), wI_o (by decide)]; exact s1 i hi
        · refine ⟨?_, fun i hi => ?_⟩
          · rw [wI_o (by decide), wI_o (by decide), wI_o (by decide), f1.2 _ (by simp)]; exact (z.2.2.2.2.1 w hw).1
          · rw [wI_o (by decide), wI_o (by decide), wI_o (by decide), f1.2 _ (by simp)]; exact (z.2.2.2.2.1 w hw).2 i hi
        · rw [wI_j (by decide), wI_j (by decide), wI_j (by decide), f1.2 _ (by simp)]; exact z.2.2.2.2.2.1
        · rw [wI_j (by decide), wI_j (by decide), wI_j (by decide), f1.2 _ (by simp)]; exact z.2.2.2.2.2.2.1
        · rw [wI_j (by decide), wI_j (by decide), wI_j (by decide), wI_o (by decide), wI_o (by decide), wI_o (by decide), f1.2 _ (by simp), f1.2 _ (by simp)]; exact z.2.2.2.2.2.2.2 hE) wI_s (by rw [wI_j (by decide), wI_j (by decide), wI_j (by decide), f1.2 _ (by simp), wI_s]; rfl) ((((FrM.rf.w (by decide) (by decide)).tr (f1.M (by simp))).w (by decide) (by decide)).w (by decide) (by decide) |>.w (by decide) (by decide)))
    · exact absurd rfl c20
  · refine x_iconst (v := 1) d_Mo_goal_11 (by decide) ?_
    refine x_goto (tgt := 16) d_Mo_goal_12 (by decide) ?_
    refine x_iconst (v := 0) d_Mo_goal_16 (by decide) ?_
    refine x_callV2 d_Mo_goal_17 k_Mo_throwing l_Mo_145 v_Mo_throwing rfl s_Mo_throwing (by first | exact hM.1 | exact hM.s rfl | assumption) RoomE.m (Nat.le_of_ble_eq_true rfl) (c_Mo_throwing (a := true) (b := false) hM ?_)
    refine x_if_eq (tgt := 24) d_Mo_goal_20 (by decide) (fun c20 => ?_) (fun c20 => ?_)
    · exact absurd c20 (by decide)
    · exact x_return d_Mo_goal_23 rfl (hE (by rw [← e1]; exact bI_0 c8))
set_option maxRecDepth 10000 in
set_option maxHeartbeats 1000000 in
theorem c_Mo_input {G : Ctx} {d : Nat} {Γ : List Sh} {σ : Mem} {Q : Option Value → List Sh → Mem → Prop} {X : CS} {v : Int32} (hM : MoS Γ σ) (hX : isMC σ X) (hW : csW X) (hQ : ∀ σ', isMC σ' (csInp X v) → trU σ σ' → FrM σ σ' → Q (some (.int (bI (inpOK X v)))) Γ σ') : Ct G M_Mo_input (d + 3) 0 0 [rf G 391, .int v] Γ σ Q := by
  have hpp : ∀ f, f < 8 → (wI σ 391 0 0).1 393 f = kP X (200 + f) := fun f hf => by rw [wI_o (by decide)]; exact (hX.2.1 f hf).1
  have hpa := pAll_of hW.2.1 hpp hW.1.1 tA_k
  refine Ct.of (lv := [some (rf G 391), some (.int v)]) (ll := []) rfl rfl (EN.cat (n := 0) ⟨rfl, rfl, trivial⟩ (Nat.le_of_ble_eq_true rfl)) ?_
  first | refine x_aload_n d_Mo_input_0 rfl rfl ?_ | refine x_aloadN_n d_Mo_input_0 rfl rfl ?_ | refine x_aloadE_n d_Mo_input_0 rfl rfl ?_ | refine x_aloadO_n d_Mo_input_0 rfl rfl ?_
  refine x_iconst (v := 0) d_Mo_input_1 (by decide) ?_
  refine x_putI d_Mo_input_2 (w_Mo_m_117 _) rfl (by first | rfl | decide) (by first | rfl | decide) (by first | exact hM.1 | exact hM.s rfl | assumption) ?_
  refine x_iload_n d_Mo_input_5 rfl rfl ?_
  refine x_if_lt (tgt := 24) d_Mo_input_6 (by decide) (fun c6 => ?_) (fun c6 => ?_)
  · refine x_iconst (v := 0) d_Mo_input_24 (by decide) ?_
    exact x_ireturn d_Mo_input_25 rfl (by first | rfl | decide) (by
      have hv8 : inpOK X v = false := by
        rw [inpOK]
        rw [if_pos c6]
      have h1 := hQ _ (by rw [csInp, hv8, if_neg (by decide)]; exact hX.thr) (trU.thr (j := 0) (t := 0) (by decide) (by decide)) (FrM.rf.w (by decide) (by decide))
      rw [hv8] at h1
      exact h1)
  · obtain ⟨v, hvb, rfl⟩ := nI_of c6
    refine x_iload_n d_Mo_input_9 rfl rfl ?_
    refine x_bipush (v := 7) d_Mo_input_10 (by decide) ?_
    refine x_icmp_gt (tgt := 24) d_Mo_input_12 (by decide) (fun c12 => ?_) (fun c12 => ?_)
    · refine x_iconst (v := 0) d_Mo_input_24 (by decide) ?_
      exact x_ireturn d_Mo_input_25 rfl (by first | rfl | decide) (by
        have hv8 : inpOK X (nI v) = false := by
          rw [inpOK]
          rw [if_neg c6, if_pos (show (8 : Int32) ≤ nI v from nI_le (show 8 ≤ v from (nI_ltI (by decide) hvb).mp (show nI 7 < nI v from c12)) hvb)]
        have h1 := hQ _ (by rw [csInp, hv8, if_neg (by decide)]; exact hX.thr) (trU.thr (j := 0) (t := 0) (by decide) (by decide)) (FrM.rf.w (by decide) (by decide))
        rw [hv8] at h1
        exact h1)
    · have hvl : v < 8 := by have := (nI_leI hvb (by decide)).mp (show nI v ≤ nI 7 from Int32.not_lt.mp c12); omega
      first | refine x_aload_n d_Mo_input_15 rfl rfl ?_ | refine x_aloadN_n d_Mo_input_15 rfl rfl ?_ | refine x_aloadE_n d_Mo_input_15 rfl rfl ?_ | refine x_aloadO_n d_Mo_input_15 rfl rfl ?_
      refine x_iconst (v := 0) d_Mo_input_16 (by decide) ?_
      refine x_iconst (v := 0) d_Mo_input_17 (by decide) ?_
      refine x_callV2 d_Mo_input_18 k_Mo_isTerm l_Mo_149 v_Mo_isTerm rfl s_Mo_isTerm (by first | exact hM.1 | exact hM.s rfl | assumption) RoomE.m (Nat.le_of_ble_eq_true rfl) (c_Mo_isTerm (lim := 0) (fn := false) (hM.w (a := 391) (j := 0) (v := 0)) (by rw [wI_j (by decide)]; exact hX.1.1) (fun i hi => by rw [wI_o (by decide)]; exact hX.1.2 i hi) hW.1.2 hW.1.1 hpa ?_)
      have e1 : itm (knw 0 false (wI σ 391 0 0)) (nP (sgP (kP X))) (kT X) 1 = ((kT X).all isK && trm (sgP (kP X)) (kT X) 1) := itm_inp (σ := wI σ 391 0 0) hW.2.1 (zs := kT X) (m := 1) hW.1.1 (by have := hW.1.2; omega)
      refine x_if_ne (tgt := 26) d_Mo_input_21 (by decide) (fun c21 => ?_) (fun c21 => ?_)
      · first | refine x_aload_n d_Mo_input_26 rfl rfl ?_ | refine x_aloadN_n d_Mo_input_26 rfl rfl ?_ | refine x_aloadE_n d_Mo_input_26 rfl rfl ?_ | refine x_aloadO_n d_Mo_input_26 rfl rfl ?_
        refine x_getR d_Mo_input_27 f_Mo_32 rfl (by first | exact hM.1 | exact hM.s rfl | assumption) (hM.r rfl) ?_
        refine x_iload_n d_Mo_input_30 rfl rfl ?_
        first | refine x_aload_n d_Mo_input_31 rfl rfl ?_ | refine x_aloadN_n d_Mo_input_31 rfl rfl ?_ | refine x_aloadE_n d_Mo_input_31 rfl rfl ?_ | refine x_aloadO_n d_Mo_input_31 rfl rfl ?_
        first | refine x_aload_n d_Mo_input_32 rfl rfl ?_ | refine x_aloadN_n d_Mo_input_32 rfl rfl ?_ | refine x_aloadE_n d_Mo_input_32 rfl rfl ?_ | refine x_aloadO_n d_Mo_input_32 rfl rfl ?_
        refine x_getR d_Mo_input_33 f_Mo_29 rfl (by first | exact hM.1 | exact hM.s rfl | assumption) (hM.r rfl) ?_
        refine x_bipush (v := 24) d_Mo_input_36 (by decide) ?_
        refine x_iload_n d_Mo_input_38 rfl rfl ?_
        refine x_imul d_Mo_input_39 ?_
        first | rw [mul40] | rw [mul24] | rw [mul100] | rw [mul7] | skip
        refine x_callV2 d_Mo_input_40 k_Mo_takeText l_Mo_153 v_Mo_takeText rfl s_Mo_takeText (by first | exact hM.1 | exact hM.s rfl | assumption) RoomE.m (Nat.le_of_ble_eq_true rfl) (c_Mo_takeText (a := 24 * v) (zs := kT X) (hM.w (a := 391) (j := 0) (v := 0)) (hM.s rfl) (by decide) (by decide) (by rw [wI_j (by decide)]; exact hX.1.1) (fun i hi => by rw [wI_o (by decide)]; exact hX.1.2 i hi) hW.1.2 (by have := hW.1.2; omega) (by decide) (fun τ1 f1 s1 o1 => ?_))
        have hM := ((hM.w (a := 391) (j := 0) (v := 0)).fr f1)
        refine x_iast d_Mo_input_43 (by first | exact hM.1 | exact hM.s rfl | assumption) (vp_in_nI hvl (by decide)) ?_
        rw [nI_clamp (by omega)]
        refine x_iconst (v := 1) d_Mo_input_44 (by decide) ?_
        exact x_ireturn d_Mo_input_45 rfl (by first | rfl | decide) (by
          have hv8 : inpOK X (nI v) = true := by
            rw [inpOK, if_neg c6, if_neg (show ¬ (8 : Int32) ≤ nI v from nI_ge hvl (by decide)), ← e1]
            exact bI_n0 c21
          have h1 := hQ (wI (wI τ1 391 1 0) 399 v (nI (kT X).length)) (by
            have z := hX.thr (t := 0)
            rw [csInp, if_pos hv8, nI_clamp (by omega)]
            refine ⟨⟨?_, seg.nil⟩, fun f hf => ?_, fun f c hf hc => ?_, ⟨?_, fun i hi => ?_⟩, fun w hw => ?_, ?_, ?_, fun hE => ?_⟩
            · rw [wI_o (by decide), wI_s]; rfl
            · rw [wI_o (by decide), wI_o (by decide), wI_o (by decide), wI_o (by decide), f1.2 _ (by simp), f1.2 _ (by simp)]; exact z.2.1 f hf
            · refine ⟨?_, fun i hi => ?_⟩
              · rw [wI_o (by decide), wI_o (by decide), f1.2 _ (by simp)]; exact (z.2.2.1 f c hf hc).1
              · rw [wI_o (by decide), wI_o (by decide), f1.2 _ (by simp)]; exact (z.2.2.1 f c hf hc).2 i hi
            · rw [wI_o (by decide), wI_j (by decide), f1.2 _ (by simp)]; exact z.2.2.2.1.1
            · rw [wI_o (by decide), wI_o (by decide), f1.2 _ (by simp)]; exact z.2.2.2.1.2 i hi
            · show _ = nI (List.length (upN X.2.2.1 v (kT X) w)) ∧ seg _ _ _ (upN X.2.2.1 v (kT X) w)
              unfold upN
              by_cases e : w = v
              · subst e
                rw [if_pos rfl]
                refine ⟨wI_s, fun i hi => ?_⟩
                rw [wI_o (by decide), wI_o (by decide)]
                exact s1 i hi
              · rw [if_neg e]
                have zz := z.2.2.2.2.1 w hw
                refine ⟨?_, fun i hi => ?_⟩
                · rw [wI_j e, wI_o (by decide), f1.2 _ (by simp)]; exact zz.1
                · rw [wI_o (by decide), wI_o (by decide)]
                  have hlw : i < 24 := by have := (hW.2.2.2.2.1 w hw).1; have hi' : i < (kI X w).length := hi; omega
                  rw [o1 _ (by have := hW.1.2; omega)]
                  exact zz.2 i hi
            · rw [wI_o (by decide), wI_j (by decide), f1.2 _ (by simp)]; exact z.2.2.2.2.2.1
            · rw [wI_o (by decide), wI_j (by decide), f1.2 _ (by simp)]; exact z.2.2.2.2.2.2.1
            · rw [wI_o (by decide), wI_j (by decide), wI_o (by decide), wI_o (by decide), f1.2 _ (by simp), f1.2 _ (by simp)]; exact z.2.2.2.2.2.2.2 hE) (((trU.thr (by decide) (by decide)).tr (trU.of f1 (by simp))).tr ((trU.thr (by decide) (by decide)).tr ⟨fun a x y => wI_o (by omega), by rw [wI_o (by decide)], by rw [wI_o (by decide)]⟩)) ((((FrM.rf.w (by decide) (by decide)).tr (f1.M (by simp))).w (by decide) (by decide)).w (by decide) (by decide))
          rw [hv8] at h1
          exact h1)
      · refine x_iconst (v := 0) d_Mo_input_24 (by decide) ?_
        exact x_ireturn d_Mo_input_25 rfl (by first | rfl | decide) (by
          have hv8 : inpOK X (nI v) = false := by
            rw [inpOK]
            rw [if_neg c6, if_neg (show ¬ (8 : Int32) ≤ nI v from nI_ge hvl (by decide)), ← e1]
            exact bI_0 c21
          have h1 := hQ _ (by rw [csInp, hv8, if_neg (by decide)]; exact hX.thr) (trU.thr (j := 0) (t := 0) (by decide) (by decide)) (FrM.rf.w (by decide) (by decide))
          rw [hv8] at h1
          exact h1)
