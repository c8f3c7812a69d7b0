/-! SuperDriverModel: function, body, forget -/
theorem dcl_n {pt : Nat → Int32} {cs : Nat → Bool} (hS : SW pt cs) {f : Nat} (hf : f < 8) : dcl pt (nI f) = decide (0 < pt (200 + f)) ∧ (pt (200 + f) = 0 ↔ dcl pt (nI f) = false) := by
  obtain ⟨j, hj, ej⟩ := hS.2.2.2.1 f hf
  have e : (200 : Int32) + nI f = nI (200 + f) := by rw [show (200 : Int32) = nI 200 from rfl, nI_add]
  have h1 : dcl pt (nI f) = decide (0 < pt (200 + f)) := by
    unfold dcl
    rw [if_neg (nI_pos (by omega)), if_neg (show ¬ (8 : Int32) ≤ nI f from nI_ge hf (by decide)), e, sgP_n (by omega)]
    by_cases z : pt (200 + f) ≤ 0
    · rw [if_pos z, decide_eq_false (Int32.not_lt.mpr z)]
    · rw [if_neg z, decide_eq_true (Int32.not_le.mp z)]
  refine ⟨h1, ?_⟩
  rw [h1, ej]
  refine ⟨fun z => by rw [z]; decide, fun z => ?_⟩
  have hz := of_decide_eq_false z
  by_cases h0 : j = 0
  · rw [h0, nI_0]
  · exfalso
    apply hz
    have := nI_lt (a := 0) (b := j) (by omega) (by omega)
    rw [nI_0] at this
    exact this
theorem fnb_in {f n : Int32} (h : fnBad f n = false) : ∃ k, k < 8 ∧ f = nI k ∧ ∃ m, 1 ≤ m ∧ m ≤ 3 ∧ n = nI m := by
  unfold fnBad at h
  by_cases h1 : f < 0
  · rw [if_pos h1] at h; cases h
  rw [if_neg h1] at h
  by_cases h2 : 8 ≤ f
  · rw [if_pos h2] at h; cases h
  rw [if_neg h2] at h
  by_cases h3 : n < 1
  · rw [if_pos h3] at h; cases h
  rw [if_neg h3] at h
  by_cases h4 : n ≤ 3
  · obtain ⟨k, hk, rfl⟩ := nI_of h1
    have hn0 : ¬ n < 0 := fun z => h3 (by
      have b := Int32.lt_iff_toInt_lt.mp z
      have q0 : (0 : Int32).toInt = 0 := by decide
      have q1 : (1 : Int32).toInt = 1 := by decide
      exact Int32.lt_iff_toInt_lt.mpr (by omega))
    obtain ⟨m, hm, rfl⟩ := nI_of hn0
    refine ⟨k, Nat.not_le.mp fun z => h2 (show nI 8 ≤ nI k from nI_le z hk), rfl, m, Nat.not_lt.mp fun z => h3 (show nI m < nI 1 from nI_lt z (by decide)), (nI_leI hm (by decide)).mp (show nI m ≤ nI 3 from h4), rfl⟩
  · rw [if_neg h4] at h; cases h
theorem gt7 {f : Int32} : 7 < f ↔ 8 ≤ f := by
  rw [Int32.lt_iff_toInt_lt, Int32.le_iff_toInt_le]
  have q7 : (7 : Int32).toInt = 7 := by decide
  have q8 : (8 : Int32).toInt = 8 := by decide
  omega
theorem mb_fn {X : CS} {f0 : Nat} {n : Int32} {b : Bool} (h0 : kP X (200 + f0) = 0) (hB : BdW (kP X) (kC X) (kB X)) (hn : n ≠ 0) (hf8 : f0 < 8) : ∀ f c, f < 8 → c < 7 → mb (X.1, X.2.1, X.2.2.1, upN X.2.2.2.1 (200 + f0) n, upN X.2.2.2.2.1 (200 + f0) b, X.2.2.2.2.2.1, tClr X.2.2.2.2.2.2.1, X.2.2.2.2.2.2.2) f c = mb X f c := by
  intro f c hf hc
  by_cases e : f = f0
  · subst e
    have he : ∀ c, c < 6 → kB X (6 * f + c) = [] := fun c hc => Classical.not_not.mp fun z => (hB f c hf hc z).1 h0
    have hr : mb X f c = [] := by unfold mb; rw [if_pos h0]
    rw [hr]
    unfold mb
    split
    · rfl
    · split
      · split
        · next h => exact he c h
        · rfl
      · split
        · have := he 0 (by omega); rw [Nat.add_zero] at this; exact this
        · rfl
  · have e1 : upN X.2.2.2.1 (200 + f0) n (200 + f) = X.2.2.2.1 (200 + f) := by unfold upN; rw [if_neg (by omega)]
    have e2 : upN X.2.2.2.2.1 (200 + f0) b (200 + f) = X.2.2.2.2.1 (200 + f) := by unfold upN; rw [if_neg (by omega)]
    unfold mb
    show (if upN X.2.2.2.1 (200 + f0) n (200 + f) = 0 then [] else if upN X.2.2.2.2.1 (200 + f0) b (200 + f) = true then _ else _) = _
    rw [e1, e2]
    rfl
set_option maxRecDepth 10000 in
set_option maxHeartbeats 1000000 in
theorem c_Mo_function {G : Ctx} {d : Nat} {Γ : List Sh} {σ : Mem} {Q : Option Value → List Sh → Mem → Prop} {X : CS} {f n : Int32} {b : Bool} (hM : MoS Γ σ) (hX : isMC σ X) (hW : csW X) (hE1 : fnBad f n = true → Q none Γ (wI σ 391 0 1)) (hE2 : fnBad f n = false → dcl (kP X) f = true → Q none Γ (wI σ 391 0 2)) (hQ : fnBad f n = false → dcl (kP X) f = false → ∀ σ', isMC σ' (csFn X f n b) → σ'.1 391 11 = 0 → σ'.1 391 0 = 0 → FrM σ σ' → Q none Γ σ') : Ct G M_Mo_function (d + 1) 0 0 [rf G 391, .int f, .int n, .int (bI b)] Γ σ Q := by
  have j49 : ∀ x : Int32, x = bI (!fnBad f n && dcl (kP X) f) → Wq G M_Mo_function (Em G (d + 1) 0 0 Q) 0 0 49 [some (rf G 391), some (.int f), some (.int n), some (.int (bI b)), some (.int (bI (fnBad f n)))] [] [.int x, .int (bI (fnBad f n)), rf G 391] Γ σ := by
    intro x hx
    subst hx
    refine x_callV2 d_Mo_function_49 k_Mo_throwing l_Mo_145 v_Mo_throwing rfl s_Mo_throwing (by first | exact hM.1 | exact hM.s rfl | assumption) RoomE.m (Nat.le_of_ble_eq_true rfl) (c_Mo_throwing (a := fnBad f n) (b := !fnBad f n && dcl (kP X) f) hM ?_)
    refine x_if_eq (tgt := 56) d_Mo_function_52 (by decide) (fun c52 => ?_) (fun c52 => ?_)
    · obtain ⟨z1, z2⟩ := Bool.or_eq_false_iff.mp (bI_0 c52)
      have hbad := z1
      rw [z1] at z2
      have hdc : dcl (kP X) f = false := by simpa using z2
      obtain ⟨k, hk8, rfl, m, hm1, hm3, rfl⟩ := fnb_in hbad
      have hp0 : kP X (200 + k) = 0 := (dcl_n hW.2.1 hk8).2.mpr hdc
      have hm0 : nI m ≠ 0 := fun z => by have := (nI_z (by omega)).mp z; omega
      rw [hbad, hdc]
      first | refine x_aload_n d_Mo_function_56 rfl rfl ?_ | refine x_aloadN_n d_Mo_function_56 rfl rfl ?_ | refine x_aloadE_n d_Mo_function_56 rfl rfl ?_ | refine x_aloadO_n d_Mo_function_56 rfl rfl ?_
      refine x_getR d_Mo_function_57 f_Mo_13 rfl (by first | exact hM.1 | exact hM.s rfl | assumption) (hM.r rfl) ?_
      refine x_iload_n d_Mo_function_60 rfl rfl ?_
      refine x_iload_n d_Mo_function_61 rfl rfl ?_
      refine x_iast d_Mo_function_62 (by first | exact hM.1 | exact hM.s rfl | assumption) (vp_in_nI hk8 (by decide)) ?_
      rw [nI_clamp (by omega)]
      first | refine x_aload_n d_Mo_function_63 rfl rfl ?_ | refine x_aloadN_n d_Mo_function_63 rfl rfl ?_ | refine x_aloadE_n d_Mo_function_63 rfl rfl ?_ | refine x_aloadO_n d_Mo_function_63 rfl rfl ?_
      refine x_getR d_Mo_function_64 f_Mo_16 rfl (by first | exact hM.1 | exact hM.s rfl | assumption) (hM.r rfl) ?_
      refine x_iload_n d_Mo_function_67 rfl rfl ?_
      refine x_iload_n d_Mo_function_68 rfl rfl ?_
      refine x_zast d_Mo_function_69 (by first | exact hM.1 | exact hM.s rfl | assumption) (vp_in_nI hk8 (by decide)) (by cases b <;> rfl) ?_
      rw [nI_clamp (by omega)]
      first | refine x_aload_n d_Mo_function_70 rfl rfl ?_ | refine x_aloadN_n d_Mo_function_70 rfl rfl ?_ | refine x_aloadE_n d_Mo_function_70 rfl rfl ?_ | refine x_aloadO_n d_Mo_function_70 rfl rfl ?_
      refine x_iconst (v := 0) d_Mo_function_71 (by decide) ?_
      refine x_putI d_Mo_function_72 (w_Mo_m_138 _) rfl (by first | rfl | decide) (by first | rfl | decide) (by first | exact hM.1 | exact hM.s rfl | assumption) ?_
      exact x_return d_Mo_function_75 rfl (hQ hbad hdc _ (by
        have z := hX.thr (t := 0)
        rw [csFn, nI_clamp (by omega)]
        refine ⟨⟨?_, fun i hi => ?_⟩, fun g hg => ?_, fun g c hg hc => ?_, ⟨?_, fun i hi => ?_⟩, fun w hw => ?_, ?_, ?_, fun hE => ?_⟩
        · rw [wI_j (by decide), wI_o (by decide), wI_o (by decide)]; exact z.1.1
        · rw [wI_o (by decide), wI_o (by decide), wI_o (by decide)]; exact z.1.2 i hi
        · show _ = upN X.2.2.2.1 (200 + k) (nI m) (200 + g) ∧ (upN X.2.2.2.1 (200 + k) (nI m) (200 + g) ≠ 0 → _ = bI (upN X.2.2.2.2.1 (200 + k) b (200 + g)))
          unfold upN
          by_cases e : g = k
          · subst e
            rw [if_pos rfl, if_pos rfl]
            exact ⟨by rw [wI_o (by decide), wI_o (by decide), wI_s], fun _ => by rw [wI_o (by decide), wI_s]⟩
          · rw [if_neg (show ¬ 200 + g = 200 + k by omega), if_neg (show ¬ 200 + g = 200 + k by omega)]
            exact ⟨by rw [wI_o (by decide), wI_o (by decide), wI_j e]; exact (z.2.1 g hg).1, fun y => by rw [wI_o (by decide), wI_j e, wI_o (by decide)]; exact (z.2.1 g hg).2 y⟩
        · rw [mb_fn hp0 hW.2.2.1 hm0 hk8 g c hg hc]
          refine ⟨?_, fun i hi => ?_⟩
          · rw [wI_o (by decide), wI_o (by decide), wI_o (by decide)]; exact (z.2.2.1 g c hg hc).1
          · rw [wI_o (by decide), wI_o (by decide), wI_o (by decide)]; exact (z.2.2.1 g c hg hc).2 i hi
        · rw [wI_j (by decide), wI_o (by decide), wI_o (by decide)]; exact z.2.2.2.1.1
        · rw [wI_o (by decide), wI_o (by decide), wI_o (by decide)]; exact z.2.2.2.1.2 i hi
        · refine ⟨?_, fun i hi => ?_⟩
          · rw [wI_o (by decide), wI_o (by decide), wI_o (by decide)]; exact (z.2.2.2.2.1 w hw).1
          · rw [wI_o (by decide), wI_o (by decide), wI_o (by decide)]; exact (z.2.2.2.2.1 w hw).2 i hi
        · rw [wI_j (by decide), wI_o (by decide), wI_o (by decide)]; exact z.2.2.2.2.2.1
        · rw [wI_j (by decide), wI_o (by decide), wI_o (by decide)]; exact z.2.2.2.2.2.2.1
        · refine ⟨by rw [wI_j (by decide), wI_o (by decide), wI_o (by decide)]; exact (z.2.2.2.2.2.2.2 hE).1, fun i hi => by rw [wI_o (by decide), wI_o (by decide), wI_o (by decide)]; exact (z.2.2.2.2.2.2.2 hE).2 i hi⟩) wI_s (by rw [wI_j (by decide), wI_o (by decide), wI_o (by decide), wI_s]; rfl) (((FrM.rf.w (by decide) (by decide)).w (by decide) (by decide)).w (by decide) (by decide) |>.w (by decide) (by decide)))
    · exact x_return d_Mo_function_55 rfl (by
        cases hb : fnBad f n with
        | true => rw [hb] at hE1; exact hE1 rfl
        | false =>
          cases hd : dcl (kP X) f with
          | true =>
            rw [hb, hd] at hE2
            exact hE2 rfl rfl
          | false => rw [hb, hd] at c52; exact absurd rfl c52)
  have j25 : ∀ x : Int32, x = bI (fnBad f n) → Wq G M_Mo_function (Em G (d + 1) 0 0 Q) 0 0 25 [some (rf G 391), some (.int f), some (.int n), some (.int (bI b)), none] [] [.int x] Γ σ := by
    intro x hx
    subst hx
    refine x_istore d_Mo_function_25 rfl ?_
    first | refine x_aload_n d_Mo_function_27 rfl rfl ?_ | refine x_aloadN_n d_Mo_function_27 rfl rfl ?_ | refine x_aloadE_n d_Mo_function_27 rfl rfl ?_ | refine x_aloadO_n d_Mo_function_27 rfl rfl ?_
    refine x_iload d_Mo_function_28 rfl ?_
    refine x_iload d_Mo_function_30 rfl ?_
    refine x_if_ne (tgt := 48) d_Mo_function_32 (by decide) (fun c32 => ?_) (fun c32 => ?_)
    · refine x_iconst (v := 0) d_Mo_function_48 (by decide) ?_
      exact j49 _ (by rw [bI_n0 c32]; rfl)
    · obtain ⟨k, hk8, rfl, m, hm1, hm3, rfl⟩ := fnb_in (bI_0 c32)
      first | refine x_aload_n d_Mo_function_35 rfl rfl ?_ | refine x_aloadN_n d_Mo_function_35 rfl rfl ?_ | refine x_aloadE_n d_Mo_function_35 rfl rfl ?_ | refine x_aloadO_n d_Mo_function_35 rfl rfl ?_
      refine x_getR d_Mo_function_36 f_Mo_13 rfl (by first | exact hM.1 | exact hM.s rfl | assumption) (hM.r rfl) ?_
      refine x_iload_n d_Mo_function_39 rfl rfl ?_
      refine x_iald d_Mo_function_40 (by first | exact hM.1 | exact hM.s rfl | assumption) (vp_in_nI hk8 (by decide)) ?_
      rw [nI_clamp (by omega), (hX.2.1 k hk8).1]
      refine x_if_le (tgt := 48) d_Mo_function_41 (by decide) (fun c41 => ?_) (fun c41 => ?_)
      · refine x_iconst (v := 0) d_Mo_function_48 (by decide) ?_
        refine j49 _ ?_
        rw [bI_0 c32, (dcl_n hW.2.1 hk8).1]
        first
        | (rw [decide_eq_false (Int32.not_lt.mpr c41)]; rfl)
        | (rw [decide_eq_true (Int32.not_le.mp c41)]; rfl)
      · refine x_iconst (v := 1) d_Mo_function_44 (by decide) ?_
        refine x_goto (tgt := 49) d_Mo_function_45 (by decide) ?_
        refine j49 _ ?_
        rw [bI_0 c32, (dcl_n hW.2.1 hk8).1]
        first
        | (rw [decide_eq_false (Int32.not_lt.mpr c41)]; rfl)
        | (rw [decide_eq_true (Int32.not_le.mp c41)]; rfl)
  refine Ct.of (lv := [some (rf G 391), some (.int f), some (.int n), some (.int (bI b)), none]) (ll := []) rfl rfl (EN.cat (n := 1) ⟨rfl, rfl, rfl, rfl, trivial⟩ (Nat.le_of_ble_eq_true rfl)) ?_
  refine x_iload_n d_Mo_function_0 rfl rfl ?_
  refine x_if_lt (tgt := 20) d_Mo_function_1 (by decide) (fun c1 => ?_) (fun c1 => ?_)
  · refine x_iconst (v := 1) d_Mo_function_20 (by decide) ?_
    refine x_goto (tgt := 25) d_Mo_function_21 (by decide) ?_
    refine j25 _ ?_
    unfold fnBad
    first
    | (rw [if_pos c1]; rfl)
    | (rw [if_neg c1, if_pos (gt7.mp c7)]; rfl)
    | (rw [if_neg c1, if_neg (fun z => c7 (gt7.mpr z)), if_pos c12]; rfl)
    | (rw [if_neg c1, if_neg (fun z => c7 (gt7.mpr z)), if_neg c12, if_pos c17]; rfl)
    | (rw [if_neg c1, if_neg (fun z => c7 (gt7.mpr z)), if_neg c12, if_neg c17]; rfl)
  · refine x_iload_n d_Mo_function_4 rfl rfl ?_
    refine x_bipush (v := 7) d_Mo_function_5 (by decide) ?_
    refine x_icmp_gt (tgt := 20) d_Mo_function_7 (by decide) (fun c7 => ?_) (fun c7 => ?_)
    · refine x_iconst (v := 1) d_Mo_function_20 (by decide) ?_
      refine x_goto (tgt := 25) d_Mo_function_21 (by decide) ?_
      refine j25 _ ?_
      unfold fnBad
      first
      | (rw [if_pos c1]; rfl)
      | (rw [if_neg c1, if_pos (gt7.mp c7)]; rfl)
      | (rw [if_neg c1, if_neg (fun z => c7 (gt7.mpr z)), if_pos c12]; rfl)
      | (rw [if_neg c1, if_neg (fun z => c7 (gt7.mpr z)), if_neg c12, if_pos c17]; rfl)
      | (rw [if_neg c1, if_neg (fun z => c7 (gt7.mpr z)), if_neg c12, if_neg c17]; rfl)
    · refine x_iload_n d_Mo_function_10 rfl rfl ?_
      refine x_iconst (v := 1) d_Mo_function_11 (by decide) ?_
      refine x_icmp_lt (tgt := 20) d_Mo_function_12 (by decide) (fun c12 => ?_) (fun c12 => ?_)
      · refine x_iconst (v := 1) d_Mo_function_20 (by decide) ?_
        refine x_goto (tgt := 25) d_Mo_function_21 (by decide) ?_
        refine j25 _ ?_
        unfold fnBad
        first
        | (rw [if_pos c1]; rfl)
        | (rw [if_neg c1, if_pos (gt7.mp c7)]; rfl)
        | (rw [if_neg c1, if_neg (fun z => c7 (gt7.mpr z)), if_pos c12]; rfl)
        | (rw [if_neg c1, if_neg (fun z => c7 (gt7.mpr z)), if_neg c12, if_pos c17]; rfl)
        | (rw [if_neg c1, if_neg (fun z => c7 (gt7.mpr z)), if_neg c12, if_neg c17]; rfl)
      · refine x_iload_n d_Mo_function_15 rfl rfl ?_
        refine x_iconst (v := 3) d_Mo_function_16 (by decide) ?_
        refine x_icmp_le (tgt := 24) d_Mo_function_17 (by decide) (fun c17 => ?_) (fun c17 => ?_)
        · refine x_iconst (v := 0) d_Mo_function_24 (by decide) ?_
          refine j25 _ ?_
          unfold fnBad
          first
          | (rw [if_pos c1]; rfl)
          | (rw [if_neg c1, if_pos (gt7.mp c7)]; rfl)
          | (rw [if_neg c1, if_neg (fun z => c7 (gt7.mpr z)), if_pos c12]; rfl)
          | (rw [if_neg c1, if_neg (fun z => c7 (gt7.mpr z)), if_neg c12, if_pos c17]; rfl)
          | (rw [if_neg c1, if_neg (fun z => c7 (gt7.mpr z)), if_neg c12, if_neg c17]; rfl)
        · refine x_iconst (v := 1) d_Mo_function_20 (by decide) ?_
          refine x_goto (tgt := 25) d_Mo_function_21 (by decide) ?_
          refine j25 _ ?_
          unfold fnBad
          first
          | (rw [if_pos c1]; rfl)
          | (rw [if_neg c1, if_pos (gt7.mp c7)]; rfl)
          | (rw [if_neg c1, if_neg (fun z => c7 (gt7.mpr z)), if_pos c12]; rfl)
          | (rw [if_neg c1, if_neg (fun z => c7 (gt7.mpr z)), if_neg c12, if_pos c17]; rfl)
          | (rw [if_neg c1, if_neg (fun z => c7 (gt7.mpr z)), if_neg c12, if_neg c17]; rfl)
set_option maxRecDepth 10000 in
set_option maxHeartbeats 1000000 in
theorem c_Mo_forget {G : Ctx} {d : Nat} {Γ : List Sh} {σ : Mem} {Q : Option Value → List Sh → Mem → Prop} {X : CS} (hM : MoS Γ σ) (hQ : ∀ σ', isMC σ' (csFg X) → σ'.1 391 11 = 0 → FrM σ σ' → Q none Γ σ') : Ct G M_Mo_forget d 0 0 [rf G 391] Γ σ Q := by
  have l2 : ∀ (k i : Nat) (τ : Mem), i ≤ 56 → 56 < i + k → FrI [393, 399, 396] (wI (wI σ 391 0 0) 391 1 0) τ → (∀ j, j < 8 → τ.1 393 j = 0) → (∀ j, j < 8 → τ.1 399 j = 0) → (∀ j, j < i → τ.1 396 j = 0) → Wq G M_Mo_forget (Em G d 0 0 Q) 0 0 40 [some (rf G 391), some (.int (nI i))] [] [] Γ τ := by
    intro k
    induction k with
    | zero => intro i τ hi hk; omega
    | succ k ih =>
    intro i τ hi56 hk f0 hp hi hb
    have hM := (((hM.w (a := 391) (j := 0) (v := 0))).w (a := 391) (j := 1) (v := 0)).fr f0
    refine x_iload_n d_Mo_forget_40 rfl rfl ?_
    refine x_bipush (v := 56) d_Mo_forget_41 (by decide) ?_
    refine x_icmp_ge (tgt := 59) d_Mo_forget_43 (by decide) (fun c43 => ?_) (fun c43 => ?_)
    · have e56 : i = 56 := by have := (nI_leI (by decide) (by omega)).mp (show nI 56 ≤ nI i from c43); omega
      subst e56
      first | refine x_aload_n d_Mo_forget_59 rfl rfl ?_ | refine x_aloadN_n d_Mo_forget_59 rfl rfl ?_ | refine x_aloadE_n d_Mo_forget_59 rfl rfl ?_ | refine x_aloadO_n d_Mo_forget_59 rfl rfl ?_
      refine x_iconst (v := 0) d_Mo_forget_60 (by decide) ?_
      refine x_putI d_Mo_forget_61 (w_Mo_m_135 _) rfl (by first | rfl | decide) (by first | rfl | decide) (by first | exact hM.1 | exact hM.s rfl | assumption) ?_
      first | refine x_aload_n d_Mo_forget_64 rfl rfl ?_ | refine x_aloadN_n d_Mo_forget_64 rfl rfl ?_ | refine x_aloadE_n d_Mo_forget_64 rfl rfl ?_ | refine x_aloadO_n d_Mo_forget_64 rfl rfl ?_
      refine x_iconst (v := 0) d_Mo_forget_65 (by decide) ?_
      refine x_putI d_Mo_forget_66 (w_Mo_m_138 _) rfl (by first | rfl | decide) (by first | rfl | decide) (by first | exact hM.1 | exact hM.s rfl | assumption) ?_
      first | refine x_aload_n d_Mo_forget_69 rfl rfl ?_ | refine x_aloadN_n d_Mo_forget_69 rfl rfl ?_ | refine x_aloadE_n d_Mo_forget_69 rfl rfl ?_ | refine x_aloadO_n d_Mo_forget_69 rfl rfl ?_
      refine x_iconst (v := -1) d_Mo_forget_70 (by decide) ?_
      refine x_putI d_Mo_forget_71 (w_Mo_m_110 _) rfl (by first | rfl | decide) (by first | rfl | decide) (by first | exact hM.1 | exact hM.s rfl | assumption) ?_
      first | refine x_aload_n d_Mo_forget_74 rfl rfl ?_ | refine x_aloadN_n d_Mo_forget_74 rfl rfl ?_ | refine x_aloadE_n d_Mo_forget_74 rfl rfl ?_ | refine x_aloadO_n d_Mo_forget_74 rfl rfl ?_
      refine x_iconst (v := 0) d_Mo_forget_75 (by decide) ?_
      refine x_putI d_Mo_forget_76 (w_Mo_m_142 _) rfl (by first | rfl | decide) (by first | rfl | decide) (by first | exact hM.1 | exact hM.s rfl | assumption) ?_
      exact x_return d_Mo_forget_79 rfl (hQ _ (by
        refine ⟨⟨?_, seg.nil⟩, fun f hf => ?_, fun f c hf hc => ?_, ⟨?_, seg.nil⟩, fun w hw => ?_, ?_, ?_, fun hE => absurd (show (-1 : Int32) = 0 from hE) (by decide)⟩
        · rw [wI_j (by decide), wI_j (by decide), wI_j (by decide), wI_j (by decide), f0.2 391 (by simp), wI_s]; rfl
        · have e : clrN X.2.2.2.1 8 0 (200 + f) = 0 := by unfold clrN; rw [if_pos ⟨by omega, by omega⟩]
          refine ⟨?_, fun z => absurd e z⟩
          rw [wI_o (by decide), wI_o (by decide), wI_o (by decide), wI_o (by decide)]
          show _ = clrN X.2.2.2.1 8 0 (200 + f)
          rw [e]
          exact hp f hf
        · have e : mb (csFg X) f c = [] := by
            unfold mb
            have e0 : kP (csFg X) (200 + f) = 0 := by
              show clrN X.2.2.2.1 8 0 (200 + f) = 0
              unfold clrN; rw [if_pos ⟨by omega, by omega⟩]
            rw [if_pos e0]
          rw [e]
          refine ⟨?_, seg.nil⟩
          rw [wI_o (by decide), wI_o (by decide), wI_o (by decide), wI_o (by decide)]
          exact hb (7 * f + c) (by omega)
        · rw [wI_j (by decide), wI_j (by decide), wI_j (by decide), wI_s]; rfl
        · have e : clrB X.2.2.1 8 w = [] := by unfold clrB; rw [if_pos hw]
          show _ = nI (List.length (clrB X.2.2.1 8 w)) ∧ seg _ _ _ (clrB X.2.2.1 8 w)
          rw [e]
          refine ⟨?_, seg.nil⟩
          rw [wI_o (by decide), wI_o (by decide), wI_o (by decide), wI_o (by decide)]
          exact hi w hw
        · rw [wI_j (by decide), wI_s]; rfl
        · rw [wI_s]; rfl) (by rw [wI_j (by decide), wI_j (by decide), wI_s]) ((((FrM.rf.w (by decide) (by decide)).w (by decide) (by decide)).tr (f0.M (by simp))).w (by decide) (by decide) |>.w (by decide) (by decide) |>.w (by decide) (by decide) |>.w (by decide) (by decide)))
    · have hlt : i < 56 := Nat.not_le.mp fun z => c43 (show nI 56 ≤ nI i from nI_le z (by omega))
      first | refine x_aload_n d_Mo_forget_46 rfl rfl ?_ | refine x_aloadN_n d_Mo_forget_46 rfl rfl ?_ | refine x_aloadE_n d_Mo_forget_46 rfl rfl ?_ | refine x_aloadO_n d_Mo_forget_46 rfl rfl ?_
      refine x_getR d_Mo_forget_47 f_Mo_23 rfl (by first | exact hM.1 | exact hM.s rfl | assumption) (hM.r rfl) ?_
      refine x_iload_n d_Mo_forget_50 rfl rfl ?_
      refine x_iconst (v := 0) d_Mo_forget_51 (by decide) ?_
      refine x_iast d_Mo_forget_52 (by first | exact hM.1 | exact hM.s rfl | assumption) (vp_in_nI hlt (by decide)) ?_
      rw [nI_clamp (by omega)]
      refine x_iinc (v := nI (i + 1)) d_Mo_forget_53 rfl (nI_1 i) rfl ?_
      refine x_goto (tgt := 40) d_Mo_forget_56 (by decide) ?_
      exact Wq.fg (ih (i + 1) _ (by omega) (by omega) (f0.put (by simp)) (fun j hj => by rw [wI_o (by decide)]; exact hp j hj) (fun j hj => by rw [wI_o (by decide)]; exact hi j hj) (fun j hj => by
        by_cases e : j = i
        · rw [e, wI_s]
        · rw [wI_j e]; exact hb j (by omega))) ⟨rfl, rfl, trivial⟩
  have l1 : ∀ (k i : Nat) (τ : Mem), i ≤ 8 → 8 < i + k → FrI [393, 399, 396] (wI (wI σ 391 0 0) 391 1 0) τ → (∀ j, j < i → τ.1 393 j = 0) → (∀ j, j < i → τ.1 399 j = 0) → Wq G M_Mo_forget (Em G d 0 0 Q) 0 0 12 [some (rf G 391), some (.int (nI i))] [] [] Γ τ := by
    intro k
    induction k with
    | zero => intro i τ hi hk; omega
    | succ k ih =>
    intro i τ hi8 hk f0 hp hi
    have hM := (((hM.w (a := 391) (j := 0) (v := 0))).w (a := 391) (j := 1) (v := 0)).fr f0
    refine x_iload_n d_Mo_forget_12 rfl rfl ?_
    refine x_bipush (v := 8) d_Mo_forget_13 (by decide) ?_
    refine x_icmp_ge (tgt := 38) d_Mo_forget_15 (by decide) (fun c15 => ?_) (fun c15 => ?_)
    · have e8 : i = 8 := by have := (nI_leI (by decide) (by omega)).mp (show nI 8 ≤ nI i from c15); omega
      subst e8
      refine x_iconst (v := 0) d_Mo_forget_38 (by decide) ?_
      refine x_istore_n d_Mo_forget_39 rfl rfl ?_
      exact Wq.fg (l2 57 0 τ (by omega) (by omega) f0 hp hi (fun j hj => absurd hj (Nat.not_lt_zero _))) ⟨rfl, by rw [nI_0], trivial⟩
    · have hlt : i < 8 := Nat.not_le.mp fun z => c15 (show nI 8 ≤ nI i from nI_le z (by omega))
      first | refine x_aload_n d_Mo_forget_18 rfl rfl ?_ | refine x_aloadN_n d_Mo_forget_18 rfl rfl ?_ | refine x_aloadE_n d_Mo_forget_18 rfl rfl ?_ | refine x_aloadO_n d_Mo_forget_18 rfl rfl ?_
      refine x_getR d_Mo_forget_19 f_Mo_13 rfl (by first | exact hM.1 | exact hM.s rfl | assumption) (hM.r rfl) ?_
      refine x_iload_n d_Mo_forget_22 rfl rfl ?_
      refine x_iconst (v := 0) d_Mo_forget_23 (by decide) ?_
      refine x_iast d_Mo_forget_24 (by first | exact hM.1 | exact hM.s rfl | assumption) (vp_in_nI hlt (by decide)) ?_
      rw [nI_clamp (by omega)]
      first | refine x_aload_n d_Mo_forget_25 rfl rfl ?_ | refine x_aloadN_n d_Mo_forget_25 rfl rfl ?_ | refine x_aloadE_n d_Mo_forget_25 rfl rfl ?_ | refine x_aloadO_n d_Mo_forget_25 rfl rfl ?_
      refine x_getR d_Mo_forget_26 f_Mo_32 rfl (by first | exact hM.1 | exact hM.s rfl | assumption) (hM.r rfl) ?_
      refine x_iload_n d_Mo_forget_29 rfl rfl ?_
      refine x_iconst (v := 0) d_Mo_forget_30 (by decide) ?_
      refine x_iast d_Mo_forget_31 (by first | exact hM.1 | exact hM.s rfl | assumption) (vp_in_nI hlt (by decide)) ?_
      rw [nI_clamp (by omega)]
      refine x_iinc (v := nI (i + 1)) d_Mo_forget_32 rfl (nI_1 i) rfl ?_
      refine x_goto (tgt := 12) d_Mo_forget_35 (by decide) ?_
      exact Wq.fg (ih (i + 1) _ (by omega) (by omega) ((f0.put (by simp)).put (by simp)) (fun j hj => by
        by_cases e : j = i
        · rw [e, wI_o (by decide), wI_s]
        · rw [wI_o (by decide), wI_j e]; exact hp j (by omega)) (fun j hj => by
        by_cases e : j = i
        · rw [e, wI_s]
        · rw [wI_j e, wI_o (by decide)]; exact hi j (by omega))) ⟨rfl, rfl, trivial⟩
  refine Ct.of (lv := [some (rf G 391), none]) (ll := []) rfl rfl (EN.cat (n := 1) ⟨rfl, trivial⟩ (Nat.le_of_ble_eq_true rfl)) ?_
  first | refine x_aload_n d_Mo_forget_0 rfl rfl ?_ | refine x_aloadN_n d_Mo_forget_0 rfl rfl ?_ | refine x_aloadE_n d_Mo_forget_0 rfl rfl ?_ | refine x_aloadO_n d_Mo_forget_0 rfl rfl ?_
  refine x_iconst (v := 0) d_Mo_forget_1 (by decide) ?_
  refine x_putI d_Mo_forget_2 (w_Mo_m_117 _) rfl (by first | rfl | decide) (by first | rfl | decide) (by first | exact hM.1 | exact hM.s rfl | assumption) ?_
  first | refine x_aload_n d_Mo_forget_5 rfl rfl ?_ | refine x_aloadN_n d_Mo_forget_5 rfl rfl ?_ | refine x_aloadE_n d_Mo_forget_5 rfl rfl ?_ | refine x_aloadO_n d_Mo_forget_5 rfl rfl ?_
  refine x_iconst (v := 0) d_Mo_forget_6 (by decide) ?_
  refine x_putI d_Mo_forget_7 (w_Mo_m_127 _) rfl (by first | rfl | decide) (by first | rfl | decide) (by first | exact hM.1 | exact hM.s rfl | assumption) ?_
  refine x_iconst (v := 0) d_Mo_forget_10 (by decide) ?_
  refine x_istore_n d_Mo_forget_11 rfl rfl ?_
  exact Wq.fg (l1 9 0 _ (by omega) (by omega) FrI.rf (fun j hj => absurd hj (Nat.not_lt_zero _)) (fun j hj => absurd hj (Nat.not_lt_zero _))) ⟨rfl, by rw [nI_0], trivial⟩
