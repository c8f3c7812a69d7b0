/-! SuperDriverModel: isNode, node, term, residual, hasInputs -/
def trO (σ : Mem) (X : CS) (pt0 : Nat → Int32) (cs0 : Nat → Bool) (T : TS) : Prop := SW pt0 cs0 ∧ WF pt0 T none ∧ WG T ∧ ((∀ m, m < tN T → kd T m ≠ 8) ∧ tmn T 0 = kG X ∧ kd T 0 ≠ 0) ∧ ptR pt0 (kP X) T ∧ (∀ m, m < tN T → fnT T m = true → kC X (300 + m) = decide (kd T m = 4)) ∧ IS (kP X) T (kR X) 0 ∧ Rt0 σ T ∧ fnM σ T ∧ rsM σ T (kR X) 0
def isMT (σ : Mem) (X : CS) : Prop := σ.1 391 11 = bI (decide (0 < tN (kR X))) ∧ (0 < tN (kR X) → ∃ pt0 cs0 T, trO σ X pt0 cs0 T)
theorem Rt0.cg {σ τ : Mem} {T : TS} (h : Rt0 σ T) (ha : ∀ a, 400 ≤ a → a ≤ 409 → τ.1 a = σ.1 a) (h13 : τ.1 391 13 = σ.1 391 13) : Rt0 τ T := by
  refine ⟨by rw [h13]; exact h.1, fun n hn => ?_⟩
  obtain ⟨⟨a1, a2, a3, a4, a5⟩, a7⟩ := h.2 n hn
  refine ⟨⟨by rw [ha 400 (by omega) (by omega)]; exact a1, by rw [ha 401 (by omega) (by omega)]; exact a2, ⟨by rw [ha 403 (by omega) (by omega)]; exact a3.1, fun i hi => by rw [ha 402 (by omega) (by omega)]; exact a3.2 i hi⟩, by rw [ha 404 (by omega) (by omega)]; exact a4, by rw [ha 406 (by omega) (by omega)]; exact a5⟩, ?_⟩
  unfold RC RK at a7 ⊢
  rw [ha 405 (by omega) (by omega), ha 406 (by omega) (by omega), ha 407 (by omega) (by omega), ha 408 (by omega) (by omega), ha 409 (by omega) (by omega)]
  exact a7
theorem isMT.tr {σ τ : Mem} {X : CS} (h : isMT σ X) (hu : trU σ τ) : isMT τ X := by
  refine ⟨by rw [hu.2.1]; exact h.1, fun z => ?_⟩
  obtain ⟨pt0, cs0, T, h1, h2, h3, h4, h5, h6, h7, h8, h9, h10⟩ := h.2 z
  exact ⟨pt0, cs0, T, h1, h2, h3, h4, h5, h6, h7, h8.cg (fun a z1 z2 => hu.1 a z1 (by omega)) hu.2.2, h9.fr (hu.1 410 (by omega) (by omega)) (hu.1 411 (by omega) (by omega)) (hu.1 412 (by omega) (by omega)), fun k z1 z2 z3 => ⟨by rw [hu.1 414 (by omega) (by omega)]; exact (h10 k z1 z2 z3).1, fun i hi => by rw [hu.1 413 (by omega) (by omega)]; exact (h10 k z1 z2 z3).2 i hi⟩⟩
theorem trU.w0 {σ : Mem} {v : Int32} : trU σ (wI σ 391 0 v) := ⟨fun a h1 h2 => wI_o (by omega), wI_j (by decide), wI_j (by decide)⟩
theorem isMC.w0 {σ : Mem} {X : CS} {v : Int32} (h : isMC σ X) : isMC (wI σ 391 0 v) X := h.cg (fun a h1 h2 => wI_o (by omega)) (wI_o (by decide)) (wI_j (by decide)) (wI_j (by decide)) (wI_j (by decide)) (wI_j (by decide)) (wI_j (by decide))
theorem tGet_c {T : TS} {i : Int32} (h48 : tN T ≤ 48) : (tGet T i = none ∧ (i < 0 ∨ nI (tN T) ≤ i)) ∨ ∃ k, k < tN T ∧ i = nI k ∧ tGet T i = some k := by
  unfold tGet
  by_cases h : i < 0
  · rw [if_pos h]; exact Or.inl ⟨rfl, Or.inl h⟩
  · rw [if_neg h]
    obtain ⟨j, hj, rfl⟩ := nI_of h
    rw [nI_clamp hj]
    by_cases h2 : j < tN T
    · rw [if_pos h2]; exact Or.inr ⟨j, h2, rfl, rfl⟩
    · rw [if_neg h2]; exact Or.inl ⟨rfl, Or.inr (nI_le (by omega) hj)⟩
theorem isMT.n {σ : Mem} {X : CS} (h : isMT σ X) (h0 : 0 < tN (kR X)) : σ.1 391 13 = nI (tN (kR X)) := by
  obtain ⟨pt0, cs0, T, h1, h2, h3, h4, h5, h6, h7, h8, h9, h10⟩ := h.2 h0
  rw [h7.1.1]
  exact h8.1
theorem isMT.le {σ : Mem} {X : CS} (h : isMT σ X) : tN (kR X) ≤ 48 := by
  by_cases h0 : 0 < tN (kR X)
  · obtain ⟨pt0, cs0, T, h1, h2, h3, h4, h5, h6, h7, h8, h9, h10⟩ := h.2 h0
    rw [h7.1.1]
    exact h2.1.1
  · omega
set_option maxRecDepth 10000 in
set_option maxHeartbeats 1000000 in
theorem c_Mo_isNode {G : Ctx} {d : Nat} {Γ : List Sh} {σ : Mem} {Q : Option Value → List Sh → Mem → Prop} {X : CS} {n : Int32} (hM : MoS Γ σ) (hT : isMT σ X) (hQ : Q (some (.int (bI (tGet (kR X) n).isSome))) Γ σ) : Ct G M_Mo_isNode d 0 0 [rf G 391, .int n] Γ σ Q := by
  refine Ct.of (lv := [some (rf G 391), some (.int n)]) (ll := []) rfl rfl (EN.cat (n := 0) ⟨rfl, rfl, trivial⟩ (Nat.le_of_ble_eq_true rfl)) ?_
  first | refine x_aload_n d_Mo_isNode_0 rfl rfl ?_ | refine x_aloadN_n d_Mo_isNode_0 rfl rfl ?_ | refine x_aloadE_n d_Mo_isNode_0 rfl rfl ?_ | refine x_aloadO_n d_Mo_isNode_0 rfl rfl ?_
  refine x_getI d_Mo_isNode_1 f_Mo_138 rfl (by first | exact hM.1 | exact hM.s rfl | assumption) ?_
  rw [hT.1]
  refine x_if_eq (tgt := 23) d_Mo_isNode_4 (by decide) (fun c4 => ?_) (fun c4 => ?_)
  · have h0 : ¬ 0 < tN (kR X) := of_decide_eq_false (bI_0 c4)
    have e : tGet (kR X) n = none := by
      rcases tGet_c (i := n) hT.le with z | ⟨k, hk, _⟩
      · exact z.1
      · omega
    refine x_iconst (v := 0) d_Mo_isNode_23 (by decide) ?_
    exact x_ireturn d_Mo_isNode_24 rfl (by first | rfl | decide) (by rw [e] at hQ; exact hQ)
  · have h0 : 0 < tN (kR X) := of_decide_eq_true (bI_n0 c4)
    refine x_iload_n d_Mo_isNode_7 rfl rfl ?_
    refine x_if_lt (tgt := 23) d_Mo_isNode_8 (by decide) (fun c8 => ?_) (fun c8 => ?_)
    · have e : tGet (kR X) n = none := by
        rcases tGet_c (i := n) hT.le with z | ⟨k, hk, rfl, _⟩
        · exact z.1
        · exact absurd c8 (nI_pos (by have := hT.le; omega))
      refine x_iconst (v := 0) d_Mo_isNode_23 (by decide) ?_
      exact x_ireturn d_Mo_isNode_24 rfl (by first | rfl | decide) (by rw [e] at hQ; exact hQ)
    · refine x_iload_n d_Mo_isNode_11 rfl rfl ?_
      first | refine x_aload_n d_Mo_isNode_12 rfl rfl ?_ | refine x_aloadN_n d_Mo_isNode_12 rfl rfl ?_ | refine x_aloadE_n d_Mo_isNode_12 rfl rfl ?_ | refine x_aloadO_n d_Mo_isNode_12 rfl rfl ?_
      refine x_getI d_Mo_isNode_13 f_Mo_180 rfl (by first | exact hM.1 | exact hM.s rfl | assumption) ?_
      rw [hT.n h0]
      refine x_icmp_ge (tgt := 23) d_Mo_isNode_16 (by decide) (fun c16 => ?_) (fun c16 => ?_)
      · have e : tGet (kR X) n = none := by
          rcases tGet_c (i := n) hT.le with z | ⟨k, hk, rfl, _⟩
          · exact z.1
          · exact absurd c16 (nI_ge hk (by have := hT.le; omega))
        refine x_iconst (v := 0) d_Mo_isNode_23 (by decide) ?_
        exact x_ireturn d_Mo_isNode_24 rfl (by first | rfl | decide) (by rw [e] at hQ; exact hQ)
      · refine x_iconst (v := 1) d_Mo_isNode_19 (by decide) ?_
        refine x_goto (tgt := 24) d_Mo_isNode_20 (by decide) ?_
        have e : ∃ k, tGet (kR X) n = some k := by
          rcases tGet_c (i := n) hT.le with z | ⟨k, hk, _, e⟩
          · rcases z.2 with y | y
            · exact absurd y c8
            · exact absurd y c16
          · exact ⟨k, e⟩
        obtain ⟨k, e⟩ := e
        exact x_ireturn d_Mo_isNode_24 rfl (by first | rfl | decide) (by rw [e] at hQ; exact hQ)
theorem ltm1 {i : Int32} (h : i < -1) : i < 0 := by
  have := Int32.lt_iff_toInt_lt.mp h
  refine Int32.lt_iff_toInt_lt.mpr ?_
  have e1 : (-1 : Int32).toInt = -1 := by decide
  have e2 : (0 : Int32).toInt = 0 := by decide
  omega
theorem eqm1 {i : Int32} (h : -1 ≤ i) (h2 : i < 0) : i = -1 := by
  have := Int32.le_iff_toInt_le.mp h
  have := Int32.lt_iff_toInt_lt.mp h2
  refine Int32.toInt_inj.mp ?_
  have e1 : (-1 : Int32).toInt = -1 := by decide
  have e2 : (0 : Int32).toInt = 0 := by decide
  omega
theorem getD_out {l : List Int32} {j : Nat} (h : l.length ≤ j) : l.getD j (-1) = -1 := by
  rw [List.getD_eq_getElem?_getD, List.getElem?_eq_none h]
  rfl
set_option maxRecDepth 10000 in
set_option maxHeartbeats 1000000 in
theorem c_Mo_term {G : Ctx} {d : Nat} {Γ : List Sh} {σ : Mem} {Q : Option Value → List Sh → Mem → Prop} {X : CS} {n i : Int32} (hM : MoS Γ σ) (hT : isMT σ X) (hQ : Q (some (.int (qTm X n i))) Γ (wI σ 391 0 0)) : Ct G M_Mo_term (d + 1) 0 0 [rf G 391, .int n, .int i] Γ σ Q := by
  refine Ct.of (lv := [some (rf G 391), some (.int n), some (.int i)]) (ll := []) rfl rfl (EN.cat (n := 0) ⟨rfl, rfl, rfl, trivial⟩ (Nat.le_of_ble_eq_true rfl)) ?_
  first | refine x_aload_n d_Mo_term_0 rfl rfl ?_ | refine x_aloadN_n d_Mo_term_0 rfl rfl ?_ | refine x_aloadE_n d_Mo_term_0 rfl rfl ?_ | refine x_aloadO_n d_Mo_term_0 rfl rfl ?_
  refine x_iconst (v := 0) d_Mo_term_1 (by decide) ?_
  refine x_putI d_Mo_term_2 (w_Mo_m_117 _) rfl (by first | rfl | decide) (by first | rfl | decide) (by first | exact hM.1 | exact hM.s rfl | assumption) ?_
  first | refine x_aload_n d_Mo_term_5 rfl rfl ?_ | refine x_aloadN_n d_Mo_term_5 rfl rfl ?_ | refine x_aloadE_n d_Mo_term_5 rfl rfl ?_ | refine x_aloadO_n d_Mo_term_5 rfl rfl ?_
  refine x_iload_n d_Mo_term_6 rfl rfl ?_
  refine x_callV1 d_Mo_term_7 k_Mo_isNode l_Mo_281 v_Mo_isNode rfl s_Mo_isNode (by first | exact hM.1 | exact hM.s rfl | assumption) RoomE.m (Nat.le_of_ble_eq_true rfl) (c_Mo_isNode (X := X) hM.w (hT.tr trU.w0) ?_)
  rcases tGet_c (T := kR X) (i := n) hT.le with ⟨hg, -⟩ | ⟨k, hk, rfl, hg⟩
  · rw [hg]
    refine x_if_eq (tgt := 28) d_Mo_term_10 (by decide) (fun c10 => ?_) (fun c10 => ?_)
    · refine x_iconst (v := -1) d_Mo_term_28 (by decide) ?_
      exact x_ireturn d_Mo_term_29 rfl (by first | rfl | decide) (by unfold qTm at hQ; rw [hg] at hQ; exact hQ)
    · exact absurd rfl c10
  · rw [hg]
    refine x_if_eq (tgt := 28) d_Mo_term_10 (by decide) (fun c10 => ?_) (fun c10 => ?_)
    · exact absurd c10 (show ¬ (1 : Int32) = 0 by decide)
    · have h0 : 0 < tN (kR X) := by omega
      have hT1 := hT.tr (trU.w0 (v := 0))
      obtain ⟨pt0, cs0, T, h1, h2, h3, h4, h5, h6, h7, h8, h9, h10⟩ := hT1.2 h0
      have hkT : k < tN T := by rw [← h7.1.1]; exact hk
      have hk48 : k < 48 := by have := hT.le; omega
      have htm := (h8.2 k hkT).1.2.2.1
      have htl : (tmn T k).length ≤ 40 := (h2.1.2.2 k hkT).1
      have hq : qTm X (nI k) i = if i = -1 then nI (tmn T k).length else atI (tmn T k) i := by
        unfold qTm
        rw [hg]
        simp only []
        rw [h7.1.t40, h2.t40 hkT]
      rw [hq] at hQ
      refine x_iload_n d_Mo_term_13 rfl rfl ?_
      refine x_iconst (v := -1) d_Mo_term_14 (by decide) ?_
      refine x_icmp_lt (tgt := 28) d_Mo_term_15 (by decide) (fun c15 => ?_) (fun c15 => ?_)
      · have hx : ¬ i = -1 ∧ i < 0 := ⟨fun z => by rw [z] at c15; exact absurd c15 (by decide), ltm1 c15⟩
        rw [if_neg hx.1] at hQ
        unfold atI at hQ
        rw [if_pos hx.2] at hQ
        refine x_iconst (v := -1) d_Mo_term_28 (by decide) ?_
        exact x_ireturn d_Mo_term_29 rfl (by first | rfl | decide) hQ
      · refine x_iload_n d_Mo_term_18 rfl rfl ?_
        first | refine x_aload_n d_Mo_term_19 rfl rfl ?_ | refine x_aloadN_n d_Mo_term_19 rfl rfl ?_ | refine x_aloadE_n d_Mo_term_19 rfl rfl ?_ | refine x_aloadO_n d_Mo_term_19 rfl rfl ?_
        refine x_getR d_Mo_term_20 f_Mo_44 rfl (by first | exact hM.1 | exact hM.s rfl | assumption) (hM.r rfl) ?_
        refine x_iload_n d_Mo_term_23 rfl rfl ?_
        refine x_iald d_Mo_term_24 (by first | exact hM.1 | exact hM.s rfl | assumption) (vp_in_nI hk48 (by decide)) ?_
        rw [nI_clamp (by omega), htm.1]
        refine x_icmp_lt (tgt := 30) d_Mo_term_25 (by decide) (fun c25 => ?_) (fun c25 => ?_)
        · refine x_iload_n d_Mo_term_30 rfl rfl ?_
          refine x_if_ge (tgt := 43) d_Mo_term_31 (by decide) (fun c31 => ?_) (fun c31 => ?_)
          · obtain ⟨j, hj, rfl⟩ := nI_of (Int32.not_lt.mpr c31)
            have hjl : j < (tmn T k).length := (nI_ltI hj (by omega)).mp c25
            first | refine x_aload_n d_Mo_term_43 rfl rfl ?_ | refine x_aloadN_n d_Mo_term_43 rfl rfl ?_ | refine x_aloadE_n d_Mo_term_43 rfl rfl ?_ | refine x_aloadO_n d_Mo_term_43 rfl rfl ?_
            refine x_getR d_Mo_term_44 f_Mo_41 rfl (by first | exact hM.1 | exact hM.s rfl | assumption) (hM.r rfl) ?_
            refine x_bipush (v := 40) d_Mo_term_47 (by decide) ?_
            refine x_iload_n d_Mo_term_49 rfl rfl ?_
            refine x_imul d_Mo_term_50 ?_
            first | rw [mul40] | rw [mul24] | rw [mul100] | rw [mul7] | skip
            first | rw [mul40] | rw [mul24] | rw [mul100] | rw [mul7] | skip
            refine x_iload_n d_Mo_term_51 rfl rfl ?_
            refine x_iadd d_Mo_term_52 ?_
            first | rw [nI_add] | rw [nI_1] | skip
            first | rw [nI_add] | rw [nI_1] | skip
            refine x_iald d_Mo_term_53 (by first | exact hM.1 | exact hM.s rfl | assumption) (vp_in_nI (show 40 * k + j < 1920 by omega) (by decide)) ?_
            rw [nI_clamp (by omega), htm.2 j hjl]
            rw [if_neg (nI_nm1 hj)] at hQ
            unfold atI at hQ
            rw [if_neg (nI_pos hj), nI_clamp hj] at hQ
            exact x_ireturn d_Mo_term_54 rfl (by first | rfl | decide) hQ
          · first | refine x_aload_n d_Mo_term_34 rfl rfl ?_ | refine x_aloadN_n d_Mo_term_34 rfl rfl ?_ | refine x_aloadE_n d_Mo_term_34 rfl rfl ?_ | refine x_aloadO_n d_Mo_term_34 rfl rfl ?_
            refine x_getR d_Mo_term_35 f_Mo_44 rfl (by first | exact hM.1 | exact hM.s rfl | assumption) (hM.r rfl) ?_
            refine x_iload_n d_Mo_term_38 rfl rfl ?_
            refine x_iald d_Mo_term_39 (by first | exact hM.1 | exact hM.s rfl | assumption) (vp_in_nI hk48 (by decide)) ?_
            rw [nI_clamp (by omega), htm.1]
            refine x_goto (tgt := 54) d_Mo_term_40 (by decide) ?_
            have hx : i = -1 := eqm1 (Int32.not_lt.mp c15) (Int32.not_le.mp c31)
            rw [if_pos hx] at hQ
            exact x_ireturn d_Mo_term_54 rfl (by first | rfl | decide) hQ
        · obtain ⟨j, hj, rfl⟩ := nI_of (show ¬ i < 0 from fun z => absurd (Int32.lt_of_le_of_lt (Int32.not_lt.mp c25) z) (nI_pos (by omega)))
          have hjl : (tmn T k).length ≤ j := (nI_leI (by omega) hj).mp (Int32.not_lt.mp c25)
          rw [if_neg (nI_nm1 hj)] at hQ
          unfold atI at hQ
          rw [if_neg (nI_pos hj), nI_clamp hj, getD_out hjl] at hQ
          refine x_iconst (v := -1) d_Mo_term_28 (by decide) ?_
          exact x_ireturn d_Mo_term_29 rfl (by first | rfl | decide) hQ
set_option maxRecDepth 10000 in
set_option maxHeartbeats 1000000 in
theorem c_Mo_residual {G : Ctx} {d : Nat} {Γ : List Sh} {σ : Mem} {Q : Option Value → List Sh → Mem → Prop} {X : CS} {n i : Int32} (hM : MoS Γ σ) (hT : isMT σ X) (hQ : Q (some (.int (qRs X n i))) Γ (wI σ 391 0 0)) : Ct G M_Mo_residual (d + 1) 0 0 [rf G 391, .int n, .int i] Γ σ Q := by
  refine Ct.of (lv := [some (rf G 391), some (.int n), some (.int i)]) (ll := []) rfl rfl (EN.cat (n := 0) ⟨rfl, rfl, rfl, trivial⟩ (Nat.le_of_ble_eq_true rfl)) ?_
  first | refine x_aload_n d_Mo_residual_0 rfl rfl ?_ | refine x_aloadN_n d_Mo_residual_0 rfl rfl ?_ | refine x_aloadE_n d_Mo_residual_0 rfl rfl ?_ | refine x_aloadO_n d_Mo_residual_0 rfl rfl ?_
  refine x_iconst (v := 0) d_Mo_residual_1 (by decide) ?_
  refine x_putI d_Mo_residual_2 (w_Mo_m_117 _) rfl (by first | rfl | decide) (by first | rfl | decide) (by first | exact hM.1 | exact hM.s rfl | assumption) ?_
  first | refine x_aload_n d_Mo_residual_5 rfl rfl ?_ | refine x_aloadN_n d_Mo_residual_5 rfl rfl ?_ | refine x_aloadE_n d_Mo_residual_5 rfl rfl ?_ | refine x_aloadO_n d_Mo_residual_5 rfl rfl ?_
  refine x_iload_n d_Mo_residual_6 rfl rfl ?_
  refine x_callV1 d_Mo_residual_7 k_Mo_isNode l_Mo_281 v_Mo_isNode rfl s_Mo_isNode (by first | exact hM.1 | exact hM.s rfl | assumption) RoomE.m (Nat.le_of_ble_eq_true rfl) (c_Mo_isNode (X := X) hM.w (hT.tr trU.w0) ?_)
  rcases tGet_c (T := kR X) (i := n) hT.le with ⟨hg, -⟩ | ⟨k, hk, rfl, hg⟩
  · rw [hg]
    refine x_if_eq (tgt := 37) d_Mo_residual_10 (by decide) (fun c10 => ?_) (fun c10 => ?_)
    · refine x_iconst (v := -1) d_Mo_residual_37 (by decide) ?_
      exact x_ireturn d_Mo_residual_38 rfl (by first | rfl | decide) (by unfold qRs at hQ; rw [hg] at hQ; exact hQ)
    · exact absurd rfl c10
  · rw [hg]
    refine x_if_eq (tgt := 37) d_Mo_residual_10 (by decide) (fun c10 => ?_) (fun c10 => ?_)
    · exact absurd c10 (show ¬ (1 : Int32) = 0 by decide)
    · have h0 : 0 < tN (kR X) := by omega
      have hT1 := hT.tr (trU.w0 (v := 0))
      obtain ⟨pt0, cs0, T, h1, h2, h3, h4, h5, h6, h7, h8, h9, h10⟩ := hT1.2 h0
      have hkT : k < tN T := by rw [← h7.1.1]; exact hk
      have hk48 : k < 48 := by have := hT.le; omega
      have hrl := (h7.2.2.2 k (by omega) hkT).1
      have hkk : (tD (kR X) k).1 7 = kd T k := h7.1.kd k
      have hq : qRs X (nI k) i = if kd T k = 0 then -1 else if i = -1 then nI (nrs (tD (kR X) k)).length else atI (nrs (tD (kR X) k)) i := by
        unfold qRs r100
        rw [hg]
        simp only []
        rw [List.take_of_length_le hrl, hkk]
      rw [hq] at hQ
      first | refine x_aload_n d_Mo_residual_13 rfl rfl ?_ | refine x_aloadN_n d_Mo_residual_13 rfl rfl ?_ | refine x_aloadE_n d_Mo_residual_13 rfl rfl ?_ | refine x_aloadO_n d_Mo_residual_13 rfl rfl ?_
      refine x_getR d_Mo_residual_14 f_Mo_35 rfl (by first | exact hM.1 | exact hM.s rfl | assumption) (hM.r rfl) ?_
      refine x_iload_n d_Mo_residual_17 rfl rfl ?_
      refine x_iald d_Mo_residual_18 (by first | exact hM.1 | exact hM.s rfl | assumption) (vp_in_nI hk48 (by decide)) ?_
      rw [nI_clamp (by omega), (h8.2 k hkT).1.1]
      refine x_if_eq (tgt := 37) d_Mo_residual_19 (by decide) (fun c19 => ?_) (fun c19 => ?_)
      · rw [if_pos c19] at hQ
        refine x_iconst (v := -1) d_Mo_residual_37 (by decide) ?_
        exact x_ireturn d_Mo_residual_38 rfl (by first | rfl | decide) hQ
      · have hrs := h10 k (by omega) hkT c19
        rw [if_neg c19] at hQ
        refine x_iload_n d_Mo_residual_22 rfl rfl ?_
        refine x_iconst (v := -1) d_Mo_residual_23 (by decide) ?_
        refine x_icmp_lt (tgt := 37) d_Mo_residual_24 (by decide) (fun c24 => ?_) (fun c24 => ?_)
        · have hx : ¬ i = -1 ∧ i < 0 := ⟨fun z => by rw [z] at c24; exact absurd c24 (by decide), ltm1 c24⟩
          rw [if_neg hx.1] at hQ
          unfold atI at hQ
          rw [if_pos hx.2] at hQ
          refine x_iconst (v := -1) d_Mo_residual_37 (by decide) ?_
          exact x_ireturn d_Mo_residual_38 rfl (by first | rfl | decide) hQ
        · refine x_iload_n d_Mo_residual_27 rfl rfl ?_
          first | refine x_aload_n d_Mo_residual_28 rfl rfl ?_ | refine x_aloadN_n d_Mo_residual_28 rfl rfl ?_ | refine x_aloadE_n d_Mo_residual_28 rfl rfl ?_ | refine x_aloadO_n d_Mo_residual_28 rfl rfl ?_
          refine x_getR d_Mo_residual_29 f_Mo_77 rfl (by first | exact hM.1 | exact hM.s rfl | assumption) (hM.r rfl) ?_
          refine x_iload_n d_Mo_residual_32 rfl rfl ?_
          refine x_iald d_Mo_residual_33 (by first | exact hM.1 | exact hM.s rfl | assumption) (vp_in_nI hk48 (by decide)) ?_
          rw [nI_clamp (by omega), hrs.1]
          refine x_icmp_lt (tgt := 39) d_Mo_residual_34 (by decide) (fun c34 => ?_) (fun c34 => ?_)
          · refine x_iload_n d_Mo_residual_39 rfl rfl ?_
            refine x_if_ge (tgt := 52) d_Mo_residual_40 (by decide) (fun c40 => ?_) (fun c40 => ?_)
            · obtain ⟨j, hj, rfl⟩ := nI_of (Int32.not_lt.mpr c40)
              have hjl : j < (nrs (tD (kR X) k)).length := (nI_ltI hj (by omega)).mp c34
              first | refine x_aload_n d_Mo_residual_52 rfl rfl ?_ | refine x_aloadN_n d_Mo_residual_52 rfl rfl ?_ | refine x_aloadE_n d_Mo_residual_52 rfl rfl ?_ | refine x_aloadO_n d_Mo_residual_52 rfl rfl ?_
              refine x_getR d_Mo_residual_53 f_Mo_74 rfl (by first | exact hM.1 | exact hM.s rfl | assumption) (hM.r rfl) ?_
              refine x_bipush (v := 100) d_Mo_residual_56 (by decide) ?_
              refine x_iload_n d_Mo_residual_58 rfl rfl ?_
              refine x_imul d_Mo_residual_59 ?_
              first | rw [mul40] | rw [mul24] | rw [mul100] | rw [mul7] | skip
              first | rw [mul40] | rw [mul24] | rw [mul100] | rw [mul7] | skip
              refine x_iload_n d_Mo_residual_60 rfl rfl ?_
              refine x_iadd d_Mo_residual_61 ?_
              first | rw [nI_add] | rw [nI_1] | skip
              first | rw [nI_add] | rw [nI_1] | skip
              refine x_iald d_Mo_residual_62 (by first | exact hM.1 | exact hM.s rfl | assumption) (vp_in_nI (show 100 * k + j < 4800 by omega) (by decide)) ?_
              rw [nI_clamp (by omega), hrs.2 j hjl]
              rw [if_neg (nI_nm1 hj)] at hQ
              unfold atI at hQ
              rw [if_neg (nI_pos hj), nI_clamp hj] at hQ
              exact x_ireturn d_Mo_residual_63 rfl (by first | rfl | decide) hQ
            · first | refine x_aload_n d_Mo_residual_43 rfl rfl ?_ | refine x_aloadN_n d_Mo_residual_43 rfl rfl ?_ | refine x_aloadE_n d_Mo_residual_43 rfl rfl ?_ | refine x_aloadO_n d_Mo_residual_43 rfl rfl ?_
              refine x_getR d_Mo_residual_44 f_Mo_77 rfl (by first | exact hM.1 | exact hM.s rfl | assumption) (hM.r rfl) ?_
              refine x_iload_n d_Mo_residual_47 rfl rfl ?_
              refine x_iald d_Mo_residual_48 (by first | exact hM.1 | exact hM.s rfl | assumption) (vp_in_nI hk48 (by decide)) ?_
              rw [nI_clamp (by omega), hrs.1]
              refine x_goto (tgt := 63) d_Mo_residual_49 (by decide) ?_
              have hx : i = -1 := eqm1 (Int32.not_lt.mp c24) (Int32.not_le.mp c40)
              rw [if_pos hx] at hQ
              exact x_ireturn d_Mo_residual_63 rfl (by first | rfl | decide) hQ
          · obtain ⟨j, hj, rfl⟩ := nI_of (show ¬ i < 0 from fun z => absurd (Int32.lt_of_le_of_lt (Int32.not_lt.mp c34) z) (nI_pos (by omega)))
            have hjl : (nrs (tD (kR X) k)).length ≤ j := (nI_leI (by omega) hj).mp (Int32.not_lt.mp c34)
            rw [if_neg (nI_nm1 hj)] at hQ
            unfold atI at hQ
            rw [if_neg (nI_pos hj), nI_clamp hj, getD_out hjl] at hQ
            refine x_iconst (v := -1) d_Mo_residual_37 (by decide) ?_
            exact x_ireturn d_Mo_residual_38 rfl (by first | rfl | decide) hQ
set_option maxRecDepth 10000 in
set_option maxHeartbeats 1000000 in
theorem c_Mo_node {G : Ctx} {d : Nat} {Γ : List Sh} {σ : Mem} {Q : Option Value → List Sh → Mem → Prop} {X : CS} {n w : Int32} (hM : MoS Γ σ) (hT : isMT σ X) (hQ : Q (some (.int (qNd X n w))) Γ (wI σ 391 0 0)) : Ct G M_Mo_node (d + 1) 0 0 [rf G 391, .int n, .int w] Γ σ Q := by
  refine Ct.of (lv := [some (rf G 391), some (.int n), some (.int w)]) (ll := []) rfl rfl (EN.cat (n := 0) ⟨rfl, rfl, rfl, trivial⟩ (Nat.le_of_ble_eq_true rfl)) ?_
  first | refine x_aload_n d_Mo_node_0 rfl rfl ?_ | refine x_aloadN_n d_Mo_node_0 rfl rfl ?_ | refine x_aloadE_n d_Mo_node_0 rfl rfl ?_ | refine x_aloadO_n d_Mo_node_0 rfl rfl ?_
  refine x_iconst (v := 0) d_Mo_node_1 (by decide) ?_
  refine x_putI d_Mo_node_2 (w_Mo_m_117 _) rfl (by first | rfl | decide) (by first | rfl | decide) (by first | exact hM.1 | exact hM.s rfl | assumption) ?_
  first | refine x_aload_n d_Mo_node_5 rfl rfl ?_ | refine x_aloadN_n d_Mo_node_5 rfl rfl ?_ | refine x_aloadE_n d_Mo_node_5 rfl rfl ?_ | refine x_aloadO_n d_Mo_node_5 rfl rfl ?_
  refine x_iload_n d_Mo_node_6 rfl rfl ?_
  refine x_callV1 d_Mo_node_7 k_Mo_isNode l_Mo_281 v_Mo_isNode rfl s_Mo_isNode (by first | exact hM.1 | exact hM.s rfl | assumption) RoomE.m (Nat.le_of_ble_eq_true rfl) (c_Mo_isNode (X := X) hM.w (hT.tr trU.w0) ?_)
  rcases tGet_c (T := kR X) (i := n) hT.le with ⟨hg, -⟩ | ⟨k, hk, rfl, hg⟩
  · rw [hg]
    refine x_if_ne (tgt := 15) d_Mo_node_10 (by decide) (fun c10 => ?_) (fun c10 => ?_)
    · exact absurd c10 (by decide)
    · refine x_iconst (v := -1) d_Mo_node_13 (by decide) ?_
      exact x_ireturn d_Mo_node_14 rfl (by first | rfl | decide) (by unfold qNd at hQ; rw [hg] at hQ; exact hQ)
  · rw [hg]
    refine x_if_ne (tgt := 15) d_Mo_node_10 (by decide) (fun c10 => ?_) (fun c10 => ?_)
    · have h0 : 0 < tN (kR X) := by omega
      have hT1 := hT.tr (trU.w0 (v := 0))
      obtain ⟨pt0, cs0, T, h1, h2, h3, h4, h5, h6, h7, h8, h9, h10⟩ := hT1.2 h0
      have hkT : k < tN T := by rw [← h7.1.1]; exact hk
      have hk48 : k < 48 := by have := hT.le; omega
      have hkk : (tD (kR X) k).1 7 = kd T k := h7.1.kd k
      refine x_iload_n d_Mo_node_15 rfl rfl ?_
      rcases tsw3 w with h | rfl | rfl | rfl | rfl
      · refine x_tblOut (tgt := 122) d_Mo_node_16 h (by decide) ?_
        have hne : ∀ z : Int32, (0 ≤ z.toInt ∧ z.toInt ≤ 3) → ¬ w = z := fun z hz e => by rw [e] at h; omega
        refine x_iconst (v := -1) d_Mo_node_122 (by decide) ?_
        exact x_ireturn d_Mo_node_123 rfl (by first | rfl | decide) (by unfold qNd at hQ; rw [hg] at hQ; simp only [if_neg (hne 0 (by decide)), if_neg (hne 1 (by decide)), if_neg (hne 2 (by decide)), if_neg (hne 3 (by decide))] at hQ; exact hQ)
      · refine x_tblIn (tgt := 48) d_Mo_node_16 (by decide) (by decide) rfl (by decide) ?_
        first | refine x_aload_n d_Mo_node_48 rfl rfl ?_ | refine x_aloadN_n d_Mo_node_48 rfl rfl ?_ | refine x_aloadE_n d_Mo_node_48 rfl rfl ?_ | refine x_aloadO_n d_Mo_node_48 rfl rfl ?_
        refine x_getR d_Mo_node_49 f_Mo_35 rfl (by first | exact hM.1 | exact hM.s rfl | assumption) (hM.r rfl) ?_
        refine x_iload_n d_Mo_node_52 rfl rfl ?_
        refine x_iald d_Mo_node_53 (by first | exact hM.1 | exact hM.s rfl | assumption) (vp_in_nI hk48 (by decide)) ?_
        rw [nI_clamp (by omega), (h8.2 k hkT).1.1, ← hkk]
        exact x_ireturn d_Mo_node_54 rfl (by first | rfl | decide) (by unfold qNd at hQ; rw [hg] at hQ; simp only [if_true] at hQ; exact hQ)
      · refine x_tblIn (tgt := 55) d_Mo_node_16 (by decide) (by decide) rfl (by decide) ?_
        first | refine x_aload_n d_Mo_node_55 rfl rfl ?_ | refine x_aloadN_n d_Mo_node_55 rfl rfl ?_ | refine x_aloadE_n d_Mo_node_55 rfl rfl ?_ | refine x_aloadO_n d_Mo_node_55 rfl rfl ?_
        refine x_getR d_Mo_node_56 f_Mo_38 rfl (by first | exact hM.1 | exact hM.s rfl | assumption) (hM.r rfl) ?_
        refine x_iload_n d_Mo_node_59 rfl rfl ?_
        refine x_iald d_Mo_node_60 (by first | exact hM.1 | exact hM.s rfl | assumption) (vp_in_nI hk48 (by decide)) ?_
        rw [nI_clamp (by omega), (h8.2 k hkT).1.2.1]
        exact x_ireturn d_Mo_node_61 rfl (by first | rfl | decide) (by
          unfold qNd at hQ
          rw [hg] at hQ
          simp only [if_neg (show ¬ (1 : Int32) = 0 by decide), if_true] at hQ
          have e3 : (tD (kR X) k).2.1 3 = lkn T k 3 := h7.1.lk k 3
          rw [e3] at hQ
          rcases h3' : lkn T k 3 with _ | u
          · rw [h3'] at hQ; exact hQ
          · rw [h3'] at hQ; exact hQ)
      · refine x_tblIn (tgt := 62) d_Mo_node_16 (by decide) (by decide) rfl (by decide) ?_
        have hQ2 : Q (some (.int (dt T k))) Γ (wI σ 391 0 0) := by
          unfold qNd at hQ
          rw [hg] at hQ
          simp only [if_neg (show ¬ (2 : Int32) = 0 by decide), if_neg (show ¬ (2 : Int32) = 1 by decide), if_true] at hQ
          rw [show (tD (kR X) k).1 8 = dt T k from h7.1.dt k] at hQ
          exact hQ
        first | refine x_aload_n d_Mo_node_62 rfl rfl ?_ | refine x_aloadN_n d_Mo_node_62 rfl rfl ?_ | refine x_aloadE_n d_Mo_node_62 rfl rfl ?_ | refine x_aloadO_n d_Mo_node_62 rfl rfl ?_
        refine x_getR d_Mo_node_63 f_Mo_35 rfl (by first | exact hM.1 | exact hM.s rfl | assumption) (hM.r rfl) ?_
        refine x_iload_n d_Mo_node_66 rfl rfl ?_
        refine x_iald d_Mo_node_67 (by first | exact hM.1 | exact hM.s rfl | assumption) (vp_in_nI hk48 (by decide)) ?_
        rw [nI_clamp (by omega), (h8.2 k hkT).1.1]
        refine x_iconst (v := 2) d_Mo_node_68 (by decide) ?_
        refine x_icmp_ne (tgt := 87) d_Mo_node_69 (by decide) (fun c69 => ?_) (fun c69 => ?_)
        · first | refine x_aload_n d_Mo_node_87 rfl rfl ?_ | refine x_aloadN_n d_Mo_node_87 rfl rfl ?_ | refine x_aloadE_n d_Mo_node_87 rfl rfl ?_ | refine x_aloadO_n d_Mo_node_87 rfl rfl ?_
          refine x_getR d_Mo_node_88 f_Mo_35 rfl (by first | exact hM.1 | exact hM.s rfl | assumption) (hM.r rfl) ?_
          refine x_iload_n d_Mo_node_91 rfl rfl ?_
          refine x_iald d_Mo_node_92 (by first | exact hM.1 | exact hM.s rfl | assumption) (vp_in_nI hk48 (by decide)) ?_
          rw [nI_clamp (by omega), (h8.2 k hkT).1.1]
          refine x_if_ne (tgt := 100) d_Mo_node_93 (by decide) (fun c93 => ?_) (fun c93 => ?_)
          · first | refine x_aload_n d_Mo_node_100 rfl rfl ?_ | refine x_aloadN_n d_Mo_node_100 rfl rfl ?_ | refine x_aloadE_n d_Mo_node_100 rfl rfl ?_ | refine x_aloadO_n d_Mo_node_100 rfl rfl ?_
            refine x_getR d_Mo_node_101 f_Mo_47 rfl (by first | exact hM.1 | exact hM.s rfl | assumption) (hM.r rfl) ?_
            refine x_iload_n d_Mo_node_104 rfl rfl ?_
            refine x_iald d_Mo_node_105 (by first | exact hM.1 | exact hM.s rfl | assumption) (vp_in_nI hk48 (by decide)) ?_
            skip
            first
            | (have hd : dt T k = (tmn T k).getD 0 (-1) - 100 := (h2.2.2 k hkT).1.2.2.2.2.2.2.2.2.1 c69
               exact x_ireturn d_Mo_node_106 rfl (by first | rfl | decide) (by rw [hd] at hQ2; exact hQ2))
            | (have hd : dt T k = -1 := (h2.2.2 k hkT).1.2.2.2.2.2.2.2.2.2 (Or.inl c93)
               exact x_ireturn d_Mo_node_106 rfl (by first | rfl | decide) (by rw [hd] at hQ2; exact hQ2))
            | (rw [nI_clamp (by omega), (h8.2 k hkT).1.2.2.2.1 c93 c69]
               exact x_ireturn d_Mo_node_106 rfl (by first | rfl | decide) hQ2)
          · refine x_iconst (v := -1) d_Mo_node_96 (by decide) ?_
            refine x_goto (tgt := 106) d_Mo_node_97 (by decide) ?_
            skip
            first
            | (have hd : dt T k = (tmn T k).getD 0 (-1) - 100 := (h2.2.2 k hkT).1.2.2.2.2.2.2.2.2.1 c69
               exact x_ireturn d_Mo_node_106 rfl (by first | rfl | decide) (by rw [hd] at hQ2; exact hQ2))
            | (have hd : dt T k = -1 := (h2.2.2 k hkT).1.2.2.2.2.2.2.2.2.2 (Or.inl c93)
               exact x_ireturn d_Mo_node_106 rfl (by first | rfl | decide) (by rw [hd] at hQ2; exact hQ2))
            | (rw [nI_clamp (by omega), (h8.2 k hkT).1.2.2.2.1 c93 c69]
               exact x_ireturn d_Mo_node_106 rfl (by first | rfl | decide) hQ2)
        · first | refine x_aload_n d_Mo_node_72 rfl rfl ?_ | refine x_aloadN_n d_Mo_node_72 rfl rfl ?_ | refine x_aloadE_n d_Mo_node_72 rfl rfl ?_ | refine x_aloadO_n d_Mo_node_72 rfl rfl ?_
          refine x_getR d_Mo_node_73 f_Mo_41 rfl (by first | exact hM.1 | exact hM.s rfl | assumption) (hM.r rfl) ?_
          refine x_bipush (v := 40) d_Mo_node_76 (by decide) ?_
          refine x_iload_n d_Mo_node_78 rfl rfl ?_
          refine x_imul d_Mo_node_79 ?_
          first | rw [mul40] | rw [mul24] | rw [mul100] | rw [mul7] | skip
          refine Wq.top (y := nI (40 * k + 0)) (by first | rfl | rw [mul40]) ?_
          refine x_iald d_Mo_node_80 (by first | exact hM.1 | exact hM.s rfl | assumption) (vp_in_nI (show 40 * k + 0 < 1920 by omega) (by decide)) ?_
          rw [nI_clamp (by omega), (h8.2 k hkT).1.2.2.1.2 0 (full_ne (h2.2.2 k hkT).1.1.1)]
          refine x_bipush (v := 100) d_Mo_node_81 (by decide) ?_
          refine x_isub d_Mo_node_83 ?_
          refine x_goto (tgt := 106) d_Mo_node_84 (by decide) ?_
          skip
          first
          | (have hd : dt T k = (tmn T k).getD 0 (-1) - 100 := (h2.2.2 k hkT).1.2.2.2.2.2.2.2.2.1 c69
             exact x_ireturn d_Mo_node_106 rfl (by first | rfl | decide) (by rw [hd] at hQ2; exact hQ2))
          | (have hd : dt T k = -1 := (h2.2.2 k hkT).1.2.2.2.2.2.2.2.2.2 (Or.inl c93)
             exact x_ireturn d_Mo_node_106 rfl (by first | rfl | decide) (by rw [hd] at hQ2; exact hQ2))
          | (rw [nI_clamp (by omega), (h8.2 k hkT).1.2.2.2.1 c93 c69]
             exact x_ireturn d_Mo_node_106 rfl (by first | rfl | decide) hQ2)
      · refine x_tblIn (tgt := 107) d_Mo_node_16 (by decide) (by decide) rfl (by decide) ?_
        first | refine x_aload_n d_Mo_node_107 rfl rfl ?_ | refine x_aloadN_n d_Mo_node_107 rfl rfl ?_ | refine x_aloadE_n d_Mo_node_107 rfl rfl ?_ | refine x_aloadO_n d_Mo_node_107 rfl rfl ?_
        refine x_getR d_Mo_node_108 f_Mo_65 rfl (by first | exact hM.1 | exact hM.s rfl | assumption) (hM.r rfl) ?_
        refine x_iload_n d_Mo_node_111 rfl rfl ?_
        refine x_zald d_Mo_node_112 (by first | exact hM.1 | exact hM.s rfl | assumption) (vp_in_nI hk48 (by decide)) ?_
        rw [nI_clamp (by omega), (h9 k hkT).1]
        refine x_if_eq (tgt := 120) d_Mo_node_113 (by decide) (fun c113 => ?_) (fun c113 => ?_)
        · refine x_iconst (v := 0) d_Mo_node_120 (by decide) ?_
          exact x_ireturn d_Mo_node_121 rfl (by first | rfl | decide) (by
            unfold qNd at hQ
            rw [hg] at hQ
            simp only [if_neg (show ¬ (3 : Int32) = 0 by decide), if_neg (show ¬ (3 : Int32) = 1 by decide), if_neg (show ¬ (3 : Int32) = 2 by decide), if_true] at hQ
            rw [h7.2.1 k hkT] at hQ
            first | (rw [if_pos c113] at hQ; exact hQ) | (rw [if_neg c113] at hQ; exact hQ))
        · refine x_iconst (v := 1) d_Mo_node_116 (by decide) ?_
          refine x_goto (tgt := 121) d_Mo_node_117 (by decide) ?_
          exact x_ireturn d_Mo_node_121 rfl (by first | rfl | decide) (by
            unfold qNd at hQ
            rw [hg] at hQ
            simp only [if_neg (show ¬ (3 : Int32) = 0 by decide), if_neg (show ¬ (3 : Int32) = 1 by decide), if_neg (show ¬ (3 : Int32) = 2 by decide), if_true] at hQ
            rw [h7.2.1 k hkT] at hQ
            first | (rw [if_pos c113] at hQ; exact hQ) | (rw [if_neg c113] at hQ; exact hQ))
    · exact absurd c10 (show ¬ (1 : Int32) = 0 by decide)
