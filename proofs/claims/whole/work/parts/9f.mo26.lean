/-! SuperDriverModel: hold, findFunctions -/
def hd1 (l : List Int32) (s : Int32) : List Int32 := if fidx s l < l.length then l else l ++ [s]
def pl1 (l : List Int32) (s : Int32) : List Int32 := if (100 : Int32) ≤ s then l else hd1 l s
def useN (σ : Mem) (n : Nat) : Nat → Bool
  | 0 => false
  | j + 1 => useN σ n j || (decide (σ.1 400 j = 6) && decide (σ.1 404 j = nI n))
def fnq (σ : Mem) (N n : Nat) : Bool := decide (σ.1 400 n = 4) || (decide (σ.1 400 n = 3) && useN σ n N)
def pl0 (σ : Mem) (n : Nat) : List Int32 := if σ.1 400 n = 4 then [σ.1 404 n] else []
def pls (σ : Mem) (N n : Nat) (zs : List Int32) : List Int32 := if fnq σ N n = true then zs.foldl pl1 (pl0 σ n) else []
def fR (σ τ : Mem) (N n : Nat) (zs : List Int32) : Prop := τ.1 410 n = bI (fnq σ N n) ∧ τ.1 412 n = nI (pls σ N n zs).length ∧ seg τ 411 (40 * n) (pls σ N n zs) ∧ (pls σ N n zs).length ≤ 40
def zOK (σ : Mem) (n : Nat) (zs : List Int32) : Prop := zs.length ≤ 40 ∧ σ.1 403 n = nI zs.length ∧ seg σ 402 (40 * n) zs ∧ (σ.1 400 n = 3 ∨ σ.1 400 n = 4 → isC (zs.getD 0 (-1)) = true)
theorem hd1_len {l : List Int32} {s : Int32} : (hd1 l s).length ≤ l.length + 1 := by
  unfold hd1
  split
  · omega
  · simp
theorem fidx_nl {s : Int32} {l : List Int32} (h : ∀ j, j < l.length → l.getD j (-1) ≠ s) : ¬ fidx s l < l.length := fun z => h _ z (fidx_lt z)
theorem fR.cg {σ τ τ' : Mem} {N n k : Nat} {zs : List Int32} (h : fR σ τ N n zs) (hn : n < k) (h0 : ∀ m, m < k → τ'.1 410 m = τ.1 410 m) (h2 : ∀ m, m < k → τ'.1 412 m = τ.1 412 m) (h1 : ∀ q, q < 40 * k → τ'.1 411 q = τ.1 411 q) : fR σ τ' N n zs :=
  ⟨by rw [h0 n hn]; exact h.1, by rw [h2 n hn]; exact h.2.1, fun i hi => by rw [h1 _ (by have := h.2.2.2; omega)]; exact h.2.2.1 i hi, h.2.2.2⟩
set_option maxRecDepth 10000 in
set_option maxHeartbeats 1000000 in
theorem c_Mo_hold {G : Ctx} {d : Nat} {Γ : List Sh} {σ : Mem} {Q : Option Value → List Sh → Mem → Prop} {n : Nat} {s : Int32} {l : List Int32} (hM : MoS Γ σ) (hn : n < 48) (hl : l.length ≤ 39) (hl2 : σ.1 412 n = nI l.length) (hseg : seg σ 411 (40 * n) l) (hQ1 : fidx s l < l.length → Q none Γ σ) (hQ2 : ¬ fidx s l < l.length → Q none Γ (wI (wI σ 411 (40 * n + l.length) s) 412 n (nI (l.length + 1)))) : Ct G M_Mo_hold d 0 0 [rf G 391, .int (nI n), .int s] Γ σ Q := by
  have lp : ∀ (k i : Nat), i ≤ l.length → l.length < i + k → (∀ j, j < i → l.getD j (-1) ≠ s) → Wq G M_Mo_hold (Em G d 0 0 Q) 0 0 5 [some (rf G 391), some (.int (nI n)), some (.int s), some (.int (nI (40 * n + i)))] [] [] Γ σ := by
    intro k
    induction k with
    | zero => intro i hi hk; omega
    | succ k ih =>
    intro i hi hk h3
    refine x_iload_n d_Mo_hold_5 rfl rfl ?_
    refine x_bipush (v := 40) d_Mo_hold_6 (by decide) ?_
    refine x_iload_n d_Mo_hold_8 rfl rfl ?_
    refine x_imul d_Mo_hold_9 ?_
    first | rw [mul40] | rw [mul24] | rw [mul100] | rw [mul7] | skip
    first | refine x_aload_n d_Mo_hold_10 rfl rfl ?_ | refine x_aloadN_n d_Mo_hold_10 rfl rfl ?_ | refine x_aloadE_n d_Mo_hold_10 rfl rfl ?_ | refine x_aloadO_n d_Mo_hold_10 rfl rfl ?_
    refine x_getR d_Mo_hold_11 f_Mo_71 rfl (by first | exact hM.1 | exact hM.s rfl | assumption) (hM.r rfl) ?_
    refine x_iload_n d_Mo_hold_14 rfl rfl ?_
    refine x_iald d_Mo_hold_15 (by first | exact hM.1 | exact hM.s rfl | assumption) (vp_in_nI hn (by decide)) ?_
    rw [nI_clamp (by omega), hl2]
    refine x_iadd d_Mo_hold_16 ?_
    first | rw [nI_add] | rw [nI_1] | skip
    refine x_icmp_ge (tgt := 37) d_Mo_hold_17 (by decide) (fun c17 => ?_) (fun c17 => ?_)
    · first | refine x_aload_n d_Mo_hold_37 rfl rfl ?_ | refine x_aloadN_n d_Mo_hold_37 rfl rfl ?_ | refine x_aloadE_n d_Mo_hold_37 rfl rfl ?_ | refine x_aloadO_n d_Mo_hold_37 rfl rfl ?_
      refine x_getR d_Mo_hold_38 f_Mo_68 rfl (by first | exact hM.1 | exact hM.s rfl | assumption) (hM.r rfl) ?_
      refine x_bipush (v := 40) d_Mo_hold_41 (by decide) ?_
      refine x_iload_n d_Mo_hold_43 rfl rfl ?_
      refine x_imul d_Mo_hold_44 ?_
      first | rw [mul40] | rw [mul24] | rw [mul100] | rw [mul7] | skip
      first | refine x_aload_n d_Mo_hold_45 rfl rfl ?_ | refine x_aloadN_n d_Mo_hold_45 rfl rfl ?_ | refine x_aloadE_n d_Mo_hold_45 rfl rfl ?_ | refine x_aloadO_n d_Mo_hold_45 rfl rfl ?_
      refine x_getR d_Mo_hold_46 f_Mo_71 rfl (by first | exact hM.1 | exact hM.s rfl | assumption) (hM.r rfl) ?_
      refine x_iload_n d_Mo_hold_49 rfl rfl ?_
      refine x_iald d_Mo_hold_50 (by first | exact hM.1 | exact hM.s rfl | assumption) (vp_in_nI hn (by decide)) ?_
      rw [nI_clamp (by omega), hl2]
      refine x_iadd d_Mo_hold_51 ?_
      first | rw [nI_add] | rw [nI_1] | skip
      refine x_iload_n d_Mo_hold_52 rfl rfl ?_
      refine x_iast d_Mo_hold_53 (by first | exact hM.1 | exact hM.s rfl | assumption) (vp_in_nI (show 40 * n + l.length < 1920 by omega) (by decide)) ?_
      rw [nI_clamp (by omega)]
      first | refine x_aload_n d_Mo_hold_54 rfl rfl ?_ | refine x_aloadN_n d_Mo_hold_54 rfl rfl ?_ | refine x_aloadE_n d_Mo_hold_54 rfl rfl ?_ | refine x_aloadO_n d_Mo_hold_54 rfl rfl ?_
      refine x_getR d_Mo_hold_55 f_Mo_71 rfl (by first | exact hM.1 | exact hM.s rfl | assumption) (hM.r rfl) ?_
      refine x_iload_n d_Mo_hold_58 rfl rfl ?_
      refine x_dup2 d_Mo_hold_59 rfl rfl ?_
      refine x_iald d_Mo_hold_60 (by first | exact hM.1 | exact hM.s rfl | assumption) (vp_in_nI hn (by decide)) ?_
      rw [nI_clamp (by omega), wI_o (by decide), hl2]
      refine x_iconst (v := 1) d_Mo_hold_61 (by decide) ?_
      refine x_iadd d_Mo_hold_62 ?_
      first | rw [nI_add] | rw [nI_1] | skip
      refine x_iast d_Mo_hold_63 (by first | exact hM.1 | exact hM.s rfl | assumption) (vp_in_nI hn (by decide)) ?_
      rw [nI_clamp (by omega)]
      exact x_return d_Mo_hold_64 rfl (hQ2 (fidx_nl (fun j hj => h3 j (by have := (nI_leI (by omega) (by omega)).mp c17; omega))))
    · have hil : i < l.length := Nat.not_le.mp fun z => c17 (nI_le (by omega) (by omega))
      first | refine x_aload_n d_Mo_hold_20 rfl rfl ?_ | refine x_aloadN_n d_Mo_hold_20 rfl rfl ?_ | refine x_aloadE_n d_Mo_hold_20 rfl rfl ?_ | refine x_aloadO_n d_Mo_hold_20 rfl rfl ?_
      refine x_getR d_Mo_hold_21 f_Mo_68 rfl (by first | exact hM.1 | exact hM.s rfl | assumption) (hM.r rfl) ?_
      refine x_iload_n d_Mo_hold_24 rfl rfl ?_
      refine x_iald d_Mo_hold_25 (by first | exact hM.1 | exact hM.s rfl | assumption) (vp_in_nI (show 40 * n + i < 1920 by omega) (by decide)) ?_
      rw [nI_clamp (by omega), hseg i hil]
      refine x_iload_n d_Mo_hold_26 rfl rfl ?_
      refine x_icmp_ne (tgt := 31) d_Mo_hold_27 (by decide) (fun c27 => ?_) (fun c27 => ?_)
      · refine x_iinc (v := nI (40 * n + (i + 1))) d_Mo_hold_31 rfl (nI_1 (40 * n + i)) rfl ?_
        refine x_goto (tgt := 5) d_Mo_hold_34 (by decide) ?_
        exact Wq.fg (ih (i + 1) (by omega) (by omega) (fun j hj => by
          by_cases e : j = i
          · rw [e]; exact c27
          · exact h3 j (by omega))) ⟨rfl, rfl, rfl, rfl, trivial⟩
      · exact x_return d_Mo_hold_30 rfl (hQ1 (fidx_le hil (c27)).2.1)
  refine Ct.of (lv := [some (rf G 391), some (.int (nI n)), some (.int s), none]) (ll := []) rfl rfl (EN.cat (n := 1) ⟨rfl, rfl, rfl, trivial⟩ (Nat.le_of_ble_eq_true rfl)) ?_
  refine x_bipush (v := 40) d_Mo_hold_0 (by decide) ?_
  refine x_iload_n d_Mo_hold_2 rfl rfl ?_
  refine x_imul d_Mo_hold_3 ?_
  first | rw [mul40] | rw [mul24] | rw [mul100] | rw [mul7] | skip
  refine x_istore_n d_Mo_hold_4 rfl rfl ?_
  exact Wq.fg (lp (l.length + 1) 0 (by omega) (by omega) (fun j hj => absurd hj (Nat.not_lt_zero _))) ⟨rfl, rfl, rfl, by rw [Nat.add_zero], trivial⟩
theorem c_Mo_hold' {G : Ctx} {d : Nat} {Γ : List Sh} {σ : Mem} {Q : Option Value → List Sh → Mem → Prop} {n : Nat} {s : Int32} {l : List Int32} (hM : MoS Γ σ) (hn : n < 48) (hl : l.length ≤ 39) (hl2 : σ.1 412 n = nI l.length) (hseg : seg σ 411 (40 * n) l) (hQ : ∀ τ, FrI [411, 412] σ τ → (∀ m, m ≠ n → τ.1 412 m = σ.1 412 m) → (∀ q, q < 40 * n → τ.1 411 q = σ.1 411 q) → τ.1 412 n = nI (hd1 l s).length → seg τ 411 (40 * n) (hd1 l s) → Q none Γ τ) : Ct G M_Mo_hold d 0 0 [rf G 391, .int (nI n), .int s] Γ σ Q := by
  refine c_Mo_hold hM hn hl hl2 hseg (fun z => ?_) (fun z => ?_)
  · refine hQ σ FrI.rf (fun _ _ => rfl) (fun _ _ => rfl) ?_ ?_
    · unfold hd1; rw [if_pos z]; exact hl2
    · unfold hd1; rw [if_pos z]; exact hseg
  · refine hQ _ ((FrI.rf.put (by simp)).put (by simp)) (fun m hm => ?_) (fun q hq => ?_) ?_ ?_
    · rw [wI_j hm, wI_o (by decide)]
    · rw [wI_o (by decide), wI_j (by omega)]
    · unfold hd1; rw [if_neg z, wI_s, List.length_append]; rfl
    · unfold hd1
      rw [if_neg z]
      intro i hi
      rw [List.length_append] at hi
      have hi : i < l.length + 1 := hi
      rw [wI_o (by decide)]
      by_cases e : i = l.length
      · subst e
        rw [wI_s]
        simp [List.getD_eq_getElem?_getD]
      · rw [wI_j (by omega), hseg i (by omega)]
        simp only [List.getD_eq_getElem?_getD]
        rw [List.getElem?_append_left (by omega)]
theorem isC_ge {s : Int32} (h : isC s = true) : (100 : Int32) ≤ s := by
  unfold isC at h
  split at h
  · cases h
  · next z =>
    have := Int32.not_lt.mp z
    have h1 := Int32.le_iff_toInt_le.mp this
    refine Int32.le_iff_toInt_le.mpr ?_
    have e1 : (200 : Int32).toInt = 200 := by decide
    have e2 : (100 : Int32).toInt = 100 := by decide
    omega
set_option maxRecDepth 10000 in
set_option maxHeartbeats 1000000 in
theorem c_Mo_findFunctions {G : Ctx} {d : Nat} {Γ : List Sh} {σ : Mem} {Q : Option Value → List Sh → Mem → Prop} {N : Nat} {zs : Nat → List Int32} (hM : MoS Γ σ) (hN : σ.1 391 13 = nI N) (hN48 : N ≤ 48) (hz : ∀ n, n < N → zOK σ n (zs n)) (hQ : ∀ τ, FrI [410, 411, 412] σ τ → (∀ m, m < N → fR σ τ N m (zs m)) → Q none Γ τ) : Ct G M_Mo_findFunctions (d + 1) 0 0 [rf G 391] Γ σ Q := by
  have lp : ∀ (k n : Nat) (τ : Mem) (o2 o3 : Option Value), n ≤ N → N < n + k → FrI [410, 411, 412] σ τ → (∀ m, m < n → fR σ τ N m (zs m)) → Wq G M_Mo_findFunctions (Em G (d + 1) 0 0 Q) 0 0 2 [some (rf G 391), some (.int (nI n)), o2, o3] [] [] Γ τ := by
    intro k
    induction k with
    | zero => intro n τ o2 o3 hn hk; omega
    | succ k ihn =>
    intro n τ o2 o3 hn hk f0 hold
    have hM0 := hM
    have hM := hM.fr f0
    refine x_iload_n d_Mo_findFunctions_2 rfl rfl ?_
    first | refine x_aload_n d_Mo_findFunctions_3 rfl rfl ?_ | refine x_aloadN_n d_Mo_findFunctions_3 rfl rfl ?_ | refine x_aloadE_n d_Mo_findFunctions_3 rfl rfl ?_ | refine x_aloadO_n d_Mo_findFunctions_3 rfl rfl ?_
    refine x_getI d_Mo_findFunctions_4 f_Mo_180 rfl (by first | exact hM.1 | exact hM.s rfl | assumption) ?_
    rw [f0.2 391 (by simp), hN]
    refine x_icmp_ge (tgt := 185) d_Mo_findFunctions_7 (by decide) (fun c7 => ?_) (fun c7 => ?_)
    · have e : n = N := by have := (nI_leI (by omega) (by omega)).mp c7; omega
      subst e
      exact x_return d_Mo_findFunctions_185 rfl (hQ τ f0 hold)
    · have hnN : n < N := Nat.not_le.mp fun z => c7 (nI_le z (by omega))
      have hn48 : n < 48 := by omega
      have hz := hz n hnN
      have hz40 := hz.1
      have hN2 : ∀ (τ : Mem) (x2 x3 : Int32), FrI [410, 411, 412] σ τ → τ.1 410 n = bI (fnq σ N n) → τ.1 412 n = nI (pls σ N n (zs n)).length → seg τ 411 (40 * n) (pls σ N n (zs n)) → (pls σ N n (zs n)).length ≤ 40 → (∀ m, m < n → fR σ τ N m (zs m)) → Wq G M_Mo_findFunctions (Em G (d + 1) 0 0 Q) 0 0 2 [some (rf G 391), some (.int (nI (n + 1))), some (.int x2), some (.int x3)] [] [] Γ τ := by
        intro τ x2 x3 f0 h0 h1 h2 h3 hold
        exact ihn (n + 1) τ _ _ (by omega) (by omega) f0 (fun m hm => by
          by_cases e : m = n
          · subst e; exact ⟨h0, h1, h2, h3⟩
          · exact hold m (by omega))
      have l127 : ∀ (x2 : Int32), ∀ (k i : Nat) (τ : Mem), i ≤ (zs n).length → (zs n).length < i + k → FrI [410, 411, 412] σ τ → τ.1 410 n = bI (fnq σ N n) → τ.1 412 n = nI (if fnq σ N n = true then ((zs n).take i).foldl pl1 (pl0 σ n) else []).length → seg τ 411 (40 * n) (if fnq σ N n = true then ((zs n).take i).foldl pl1 (pl0 σ n) else []) → ((if fnq σ N n = true then ((zs n).take i).foldl pl1 (pl0 σ n) else []).length ≤ i ∨ (i = 0 ∧ (if fnq σ N n = true then ((zs n).take i).foldl pl1 (pl0 σ n) else []).length ≤ 1)) → (∀ m, m < n → fR σ τ N m (zs m)) → Wq G M_Mo_findFunctions (Em G (d + 1) 0 0 Q) 0 0 127 [some (rf G 391), some (.int (nI n)), some (.int x2), some (.int (nI (40 * n + i)))] [] [] Γ τ := by
        intro x2 k
        induction k with
        | zero => intro i τ hi hk; omega
        | succ k ih =>
        intro i τ hi hk f0 h0 h1 h2 h3 hold
        have hM := hM0.fr f0
        refine x_iload_n d_Mo_findFunctions_127 rfl rfl ?_
        refine x_bipush (v := 40) d_Mo_findFunctions_128 (by decide) ?_
        refine x_iload_n d_Mo_findFunctions_130 rfl rfl ?_
        refine x_imul d_Mo_findFunctions_131 ?_
        first | rw [mul40] | rw [mul24] | rw [mul100] | rw [mul7] | skip
        first | refine x_aload_n d_Mo_findFunctions_132 rfl rfl ?_ | refine x_aloadN_n d_Mo_findFunctions_132 rfl rfl ?_ | refine x_aloadE_n d_Mo_findFunctions_132 rfl rfl ?_ | refine x_aloadO_n d_Mo_findFunctions_132 rfl rfl ?_
        refine x_getR d_Mo_findFunctions_133 f_Mo_44 rfl (by first | exact hM.1 | exact hM.s rfl | assumption) (hM.r rfl) ?_
        refine x_iload_n d_Mo_findFunctions_136 rfl rfl ?_
        refine x_iald d_Mo_findFunctions_137 (by first | exact hM.1 | exact hM.s rfl | assumption) (vp_in_nI hn48 (by decide)) ?_
        rw [nI_clamp (by omega), f0.2 403 (by simp), hz.2.1]
        refine x_iadd d_Mo_findFunctions_138 ?_
        first | rw [nI_add] | rw [nI_1] | skip
        refine x_icmp_ge (tgt := 179) d_Mo_findFunctions_139 (by decide) (fun c139 => ?_) (fun c139 => ?_)
        · have e : i = (zs n).length := by have := (nI_leI (by omega) (by omega)).mp c139; omega
          refine x_iinc (v := nI (n + 1)) d_Mo_findFunctions_179 rfl (nI_1 n) rfl ?_
          refine x_goto (tgt := 2) d_Mo_findFunctions_182 (by decide) ?_
          refine Wq.fg (hN2 τ x2 _ f0 h0 ?_ ?_ ?_ hold) lsub_rf
          · unfold pls; rw [e, List.take_length] at h1; exact h1
          · unfold pls; rw [e, List.take_length] at h2; exact h2
          · unfold pls; rw [e, List.take_length] at h3; omega
        · have hil : i < (zs n).length := Nat.not_le.mp fun z => c139 (nI_le (by omega) (by omega))
          first | refine x_aload_n d_Mo_findFunctions_142 rfl rfl ?_ | refine x_aloadN_n d_Mo_findFunctions_142 rfl rfl ?_ | refine x_aloadE_n d_Mo_findFunctions_142 rfl rfl ?_ | refine x_aloadO_n d_Mo_findFunctions_142 rfl rfl ?_
          refine x_getR d_Mo_findFunctions_143 f_Mo_65 rfl (by first | exact hM.1 | exact hM.s rfl | assumption) (hM.r rfl) ?_
          refine x_iload_n d_Mo_findFunctions_146 rfl rfl ?_
          refine x_zald d_Mo_findFunctions_147 (by first | exact hM.1 | exact hM.s rfl | assumption) (vp_in_nI hn48 (by decide)) ?_
          rw [nI_clamp (by omega), h0]
          refine x_if_eq (tgt := 179) d_Mo_findFunctions_148 (by decide) (fun c148 => ?_) (fun c148 => ?_)
          · have hf := bI_0 c148
            refine x_iinc (v := nI (n + 1)) d_Mo_findFunctions_179 rfl (nI_1 n) rfl ?_
            refine x_goto (tgt := 2) d_Mo_findFunctions_182 (by decide) ?_
            have hff : ¬ fnq σ N n = true := by rw [hf]; decide
            rw [if_neg hff] at h1 h2 h3
            refine Wq.fg (hN2 τ x2 _ f0 h0 ?_ ?_ ?_ hold) lsub_rf
            · unfold pls; rw [if_neg hff]; exact h1
            · unfold pls; rw [if_neg hff]; exact h2
            · unfold pls; rw [if_neg hff]; exact Nat.zero_le _
          · have hf := bI_n0 c148
            rw [if_pos hf] at h1 h2 h3
            first | refine x_aload_n d_Mo_findFunctions_151 rfl rfl ?_ | refine x_aloadN_n d_Mo_findFunctions_151 rfl rfl ?_ | refine x_aloadE_n d_Mo_findFunctions_151 rfl rfl ?_ | refine x_aloadO_n d_Mo_findFunctions_151 rfl rfl ?_
            refine x_getR d_Mo_findFunctions_152 f_Mo_41 rfl (by first | exact hM.1 | exact hM.s rfl | assumption) (hM.r rfl) ?_
            refine x_iload_n d_Mo_findFunctions_155 rfl rfl ?_
            refine x_iald d_Mo_findFunctions_156 (by first | exact hM.1 | exact hM.s rfl | assumption) (vp_in_nI (show 40 * n + i < 1920 by omega) (by decide)) ?_
            rw [nI_clamp (by omega), f0.2 402 (by simp), hz.2.2.1 i hil]
            refine x_bipush (v := 100) d_Mo_findFunctions_157 (by decide) ?_
            refine x_icmp_ge (tgt := 173) d_Mo_findFunctions_159 (by decide) (fun c159 => ?_) (fun c159 => ?_)
            · refine x_iinc (v := nI (40 * n + (i + 1))) d_Mo_findFunctions_173 rfl (nI_1 (40 * n + i)) rfl ?_
              refine x_goto (tgt := 127) d_Mo_findFunctions_176 (by decide) ?_
              have es : ((zs n).take (i + 1)).foldl pl1 (pl0 σ n) = ((zs n).take i).foldl pl1 (pl0 σ n) := by
                rw [take_s hil, List.foldl_append]
                show pl1 _ ((zs n).getD i (-1)) = _
                unfold pl1
                rw [if_pos c159]
              exact Wq.fg (ih (i + 1) τ (by omega) (by omega) f0 h0 (by rw [if_pos hf, es]; exact h1) (by rw [if_pos hf, es]; exact h2) (by rw [if_pos hf, es]; omega) hold) lsub_rf
            · first | refine x_aload_n d_Mo_findFunctions_162 rfl rfl ?_ | refine x_aloadN_n d_Mo_findFunctions_162 rfl rfl ?_ | refine x_aloadE_n d_Mo_findFunctions_162 rfl rfl ?_ | refine x_aloadO_n d_Mo_findFunctions_162 rfl rfl ?_
              refine x_iload_n d_Mo_findFunctions_163 rfl rfl ?_
              first | refine x_aload_n d_Mo_findFunctions_164 rfl rfl ?_ | refine x_aloadN_n d_Mo_findFunctions_164 rfl rfl ?_ | refine x_aloadE_n d_Mo_findFunctions_164 rfl rfl ?_ | refine x_aloadO_n d_Mo_findFunctions_164 rfl rfl ?_
              refine x_getR d_Mo_findFunctions_165 f_Mo_41 rfl (by first | exact hM.1 | exact hM.s rfl | assumption) (hM.r rfl) ?_
              refine x_iload_n d_Mo_findFunctions_168 rfl rfl ?_
              refine x_iald d_Mo_findFunctions_169 (by first | exact hM.1 | exact hM.s rfl | assumption) (vp_in_nI (show 40 * n + i < 1920 by omega) (by decide)) ?_
              rw [nI_clamp (by omega), f0.2 402 (by simp), hz.2.2.1 i hil]
              refine x_callV2 d_Mo_findFunctions_170 k_Mo_hold l_Mo_269 v_Mo_hold rfl s_Mo_hold (by first | exact hM.1 | exact hM.s rfl | assumption) RoomE.m (Nat.le_of_ble_eq_true rfl) (c_Mo_hold' hM hn48 (l := ((zs n).take i).foldl pl1 (pl0 σ n)) ?_ h1 h2 (fun τ1 f1 g1 g2 g3 g4 => ?_))
              · have hC := hz.2.2.2 (by
                  unfold fnq at hf
                  rcases Bool.or_eq_true_iff.mp hf with z | z
                  · exact Or.inr (of_decide_eq_true z)
                  · exact Or.inl (of_decide_eq_true (Bool.and_eq_true_iff.mp z).1))
                have hi0 : i ≠ 0 := fun z => by
                  rw [z] at c159
                  exact c159 (isC_ge hC)
                omega
              refine x_iinc (v := nI (40 * n + (i + 1))) d_Mo_findFunctions_173 rfl (nI_1 (40 * n + i)) rfl ?_
              refine x_goto (tgt := 127) d_Mo_findFunctions_176 (by decide) ?_
              have es : ((zs n).take (i + 1)).foldl pl1 (pl0 σ n) = hd1 (((zs n).take i).foldl pl1 (pl0 σ n)) ((zs n).getD i (-1)) := by
                rw [take_s hil, List.foldl_append]
                show pl1 _ ((zs n).getD i (-1)) = _
                unfold pl1
                rw [if_neg c159]
              have hi0 : i ≠ 0 := fun z => by
                rw [z] at c159
                exact c159 (isC_ge (hz.2.2.2 (by
                  unfold fnq at hf
                  rcases Bool.or_eq_true_iff.mp hf with z | z
                  · exact Or.inr (of_decide_eq_true z)
                  · exact Or.inl (of_decide_eq_true (Bool.and_eq_true_iff.mp z).1))))
              exact Wq.fg (ih (i + 1) τ1 (by omega) (by omega) (f0.tr (f1.mono (by simp))) (by rw [f1.2 410 (by simp)]; exact h0) (by rw [if_pos hf, es]; exact g3) (by rw [if_pos hf, es]; exact g4) (by rw [if_pos hf, es]; have := hd1_len (l := ((zs n).take i).foldl pl1 (pl0 σ n)) (s := (zs n).getD i (-1)); omega) (fun m hm => (hold m hm).cg (k := n) hm (fun q _ => by rw [f1.2 410 (by simp)]) (fun q hq => g1 q (by omega)) g2)) lsub_rf
      have j93 : ∀ (x2 : Int32), ∀ (τ : Mem) (x3 : Int32), FrI [410, 411, 412] σ τ → (∀ m, m < n → fR σ τ N m (zs m)) → Wq G M_Mo_findFunctions (Em G (d + 1) 0 0 Q) 0 0 93 [some (rf G 391), some (.int (nI n)), some (.int x2), some (.int x3)] [] [.int (bI (fnq σ N n)), .int (nI n), rf G 410] Γ τ := by
        intro x2 τ x3 f0 hold
        have hM := hM0.fr f0
        refine x_zast d_Mo_findFunctions_93 (by exact hM.s rfl) (vp_in_nI hn48 (by decide)) (by cases fnq σ N n <;> rfl) ?_
        rw [nI_clamp (by omega)]
        first | refine x_aload_n d_Mo_findFunctions_94 rfl rfl ?_ | refine x_aloadN_n d_Mo_findFunctions_94 rfl rfl ?_ | refine x_aloadE_n d_Mo_findFunctions_94 rfl rfl ?_ | refine x_aloadO_n d_Mo_findFunctions_94 rfl rfl ?_
        refine x_getR d_Mo_findFunctions_95 f_Mo_71 rfl (by first | exact hM.1 | exact hM.s rfl | assumption) (hM.r rfl) ?_
        refine x_iload_n d_Mo_findFunctions_98 rfl rfl ?_
        refine x_iconst (v := 0) d_Mo_findFunctions_99 (by decide) ?_
        refine x_iast d_Mo_findFunctions_100 (by first | exact hM.1 | exact hM.s rfl | assumption) (vp_in_nI hn48 (by decide)) ?_
        rw [nI_clamp (by omega)]
        first | refine x_aload_n d_Mo_findFunctions_101 rfl rfl ?_ | refine x_aloadN_n d_Mo_findFunctions_101 rfl rfl ?_ | refine x_aloadE_n d_Mo_findFunctions_101 rfl rfl ?_ | refine x_aloadO_n d_Mo_findFunctions_101 rfl rfl ?_
        refine x_getR d_Mo_findFunctions_102 f_Mo_35 rfl (by first | exact hM.1 | exact hM.s rfl | assumption) (hM.r rfl) ?_
        refine x_iload_n d_Mo_findFunctions_105 rfl rfl ?_
        refine x_iald d_Mo_findFunctions_106 (by first | exact hM.1 | exact hM.s rfl | assumption) (vp_in_nI hn48 (by decide)) ?_
        rw [nI_clamp (by omega), wI_o (by decide), wI_o (by decide), f0.2 400 (by simp)]
        refine x_iconst (v := 4) d_Mo_findFunctions_107 (by decide) ?_
        refine x_icmp_ne (tgt := 122) d_Mo_findFunctions_108 (by decide) (fun c108 => ?_) (fun c108 => ?_)
        · refine x_bipush (v := 40) d_Mo_findFunctions_122 (by decide) ?_
          refine x_iload_n d_Mo_findFunctions_124 rfl rfl ?_
          refine x_imul d_Mo_findFunctions_125 ?_
          first | rw [mul40] | rw [mul24] | rw [mul100] | rw [mul7] | skip
          refine x_istore_n d_Mo_findFunctions_126 rfl rfl ?_
          have e0 : pl0 σ n = [] := by unfold pl0; rw [if_neg c108]
          have e1 : (if fnq σ N n = true then ((zs n).take 0).foldl pl1 (pl0 σ n) else []) = [] := by
            rw [e0]
            split <;> rfl
          exact Wq.fg (l127 x2 ((zs n).length + 1) 0 _ (by omega) (by omega) (f0.put (by simp) |>.put (by simp)) (by rw [wI_o (by decide), wI_s]) (by rw [e1, wI_s]; rfl) (by rw [e1]; exact seg.nil) (by rw [e1]; exact Or.inl (Nat.le_refl _)) (fun m hm => (hold m hm).cg (k := n) hm (fun q hq => by rw [wI_o (by decide), wI_j (by omega)]) (fun q hq => by rw [wI_j (by omega), wI_o (by decide)]) (fun q hq => by rw [wI_o (by decide), wI_o (by decide)]))) lsub_rf
        · first | refine x_aload_n d_Mo_findFunctions_111 rfl rfl ?_ | refine x_aloadN_n d_Mo_findFunctions_111 rfl rfl ?_ | refine x_aloadE_n d_Mo_findFunctions_111 rfl rfl ?_ | refine x_aloadO_n d_Mo_findFunctions_111 rfl rfl ?_
          refine x_iload_n d_Mo_findFunctions_112 rfl rfl ?_
          first | refine x_aload_n d_Mo_findFunctions_113 rfl rfl ?_ | refine x_aloadN_n d_Mo_findFunctions_113 rfl rfl ?_ | refine x_aloadE_n d_Mo_findFunctions_113 rfl rfl ?_ | refine x_aloadO_n d_Mo_findFunctions_113 rfl rfl ?_
          refine x_getR d_Mo_findFunctions_114 f_Mo_47 rfl (by first | exact hM.1 | exact hM.s rfl | assumption) (hM.r rfl) ?_
          refine x_iload_n d_Mo_findFunctions_117 rfl rfl ?_
          refine x_iald d_Mo_findFunctions_118 (by first | exact hM.1 | exact hM.s rfl | assumption) (vp_in_nI hn48 (by decide)) ?_
          rw [nI_clamp (by omega), wI_o (by decide), wI_o (by decide), f0.2 404 (by simp)]
          refine x_callV2 d_Mo_findFunctions_119 k_Mo_hold l_Mo_269 v_Mo_hold rfl s_Mo_hold (by first | exact hM.1 | exact hM.s rfl | assumption) RoomE.m (Nat.le_of_ble_eq_true rfl) (c_Mo_hold' (l := []) (hM.w.w) hn48 (by simp) (by rw [wI_s]; rfl) seg.nil (fun τ1 f1 g1 g2 g3 g4 => ?_))
          refine x_bipush (v := 40) d_Mo_findFunctions_122 (by decide) ?_
          refine x_iload_n d_Mo_findFunctions_124 rfl rfl ?_
          refine x_imul d_Mo_findFunctions_125 ?_
          first | rw [mul40] | rw [mul24] | rw [mul100] | rw [mul7] | skip
          refine x_istore_n d_Mo_findFunctions_126 rfl rfl ?_
          have hf4 : fnq σ N n = true := by unfold fnq; rw [decide_eq_true c108]; rfl
          have e0 : pl0 σ n = [σ.1 404 n] := by unfold pl0; rw [if_pos c108]
          have e1 : (if fnq σ N n = true then ((zs n).take 0).foldl pl1 (pl0 σ n) else []) = [σ.1 404 n] := by
            rw [if_pos hf4, e0]
            rfl
          have e2 : hd1 [] (σ.1 404 n) = [σ.1 404 n] := rfl
          rw [e2] at g3 g4
          exact Wq.fg (l127 x2 ((zs n).length + 1) 0 _ (by omega) (by omega) ((f0.put (by simp) |>.put (by simp)).tr (f1.mono (by simp))) (by rw [f1.2 410 (by simp), wI_o (by decide), wI_s]) (by rw [e1]; exact g3) (by rw [e1]; exact g4) (by rw [e1]; exact Or.inr ⟨rfl, Nat.le_refl _⟩) (fun m hm => (hold m hm).cg (k := n) hm (fun q hq => by rw [f1.2 410 (by simp), wI_o (by decide), wI_j (by omega)]) (fun q hq => by rw [g1 q (by omega), wI_j (by omega), wI_o (by decide)]) (fun q hq => by rw [g2 q hq, wI_o (by decide), wI_o (by decide)]))) lsub_rf
      have l14 : ∀ (τ : Mem), FrI [410, 411, 412] σ τ → (∀ m, m < n → fR σ τ N m (zs m)) → ∀ (k j : Nat), j ≤ N → N < j + k → Wq G M_Mo_findFunctions (Em G (d + 1) 0 0 Q) 0 0 14 [some (rf G 391), some (.int (nI n)), some (.int (bI (useN σ n j))), some (.int (nI j))] [] [] Γ τ := by
        intro τ f0 hold k
        have hM := hM0.fr f0
        induction k with
        | zero => intro j hj hk; omega
        | succ k ih =>
        intro j hj hk
        refine x_iload_n d_Mo_findFunctions_14 rfl rfl ?_
        first | refine x_aload_n d_Mo_findFunctions_15 rfl rfl ?_ | refine x_aloadN_n d_Mo_findFunctions_15 rfl rfl ?_ | refine x_aloadE_n d_Mo_findFunctions_15 rfl rfl ?_ | refine x_aloadO_n d_Mo_findFunctions_15 rfl rfl ?_
        refine x_getI d_Mo_findFunctions_16 f_Mo_180 rfl (by first | exact hM.1 | exact hM.s rfl | assumption) ?_
        rw [f0.2 391 (by simp), hN]
        refine x_icmp_ge (tgt := 59) d_Mo_findFunctions_19 (by decide) (fun c19 => ?_) (fun c19 => ?_)
        · have e : j = N := by have := (nI_leI (by omega) (by omega)).mp c19; omega
          subst e
          first | refine x_aload_n d_Mo_findFunctions_59 rfl rfl ?_ | refine x_aloadN_n d_Mo_findFunctions_59 rfl rfl ?_ | refine x_aloadE_n d_Mo_findFunctions_59 rfl rfl ?_ | refine x_aloadO_n d_Mo_findFunctions_59 rfl rfl ?_
          refine x_getR d_Mo_findFunctions_60 f_Mo_65 rfl (by first | exact hM.1 | exact hM.s rfl | assumption) (hM.r rfl) ?_
          refine x_iload_n d_Mo_findFunctions_63 rfl rfl ?_
          first | refine x_aload_n d_Mo_findFunctions_64 rfl rfl ?_ | refine x_aloadN_n d_Mo_findFunctions_64 rfl rfl ?_ | refine x_aloadE_n d_Mo_findFunctions_64 rfl rfl ?_ | refine x_aloadO_n d_Mo_findFunctions_64 rfl rfl ?_
          refine x_getR d_Mo_findFunctions_65 f_Mo_35 rfl (by first | exact hM.1 | exact hM.s rfl | assumption) (hM.r rfl) ?_
          refine x_iload_n d_Mo_findFunctions_68 rfl rfl ?_
          refine x_iald d_Mo_findFunctions_69 (by first | exact hM.1 | exact hM.s rfl | assumption) (vp_in_nI hn48 (by decide)) ?_
          rw [nI_clamp (by omega), f0.2 400 (by simp)]
          refine x_iconst (v := 4) d_Mo_findFunctions_70 (by decide) ?_
          refine x_icmp_eq (tgt := 88) d_Mo_findFunctions_71 (by decide) (fun c71 => ?_) (fun c71 => ?_)
          · refine x_iconst (v := 1) d_Mo_findFunctions_88 (by decide) ?_
            refine x_goto (tgt := 93) d_Mo_findFunctions_89 (by decide) ?_
            exact Wq.top (y := bI (fnq σ j n)) (by unfold fnq; rw [decide_eq_true c71]; rfl) (j93 (bI (useN σ n j)) τ _ f0 hold)
          · first | refine x_aload_n d_Mo_findFunctions_74 rfl rfl ?_ | refine x_aloadN_n d_Mo_findFunctions_74 rfl rfl ?_ | refine x_aloadE_n d_Mo_findFunctions_74 rfl rfl ?_ | refine x_aloadO_n d_Mo_findFunctions_74 rfl rfl ?_
            refine x_getR d_Mo_findFunctions_75 f_Mo_35 rfl (by first | exact hM.1 | exact hM.s rfl | assumption) (hM.r rfl) ?_
            refine x_iload_n d_Mo_findFunctions_78 rfl rfl ?_
            refine x_iald d_Mo_findFunctions_79 (by first | exact hM.1 | exact hM.s rfl | assumption) (vp_in_nI hn48 (by decide)) ?_
            rw [nI_clamp (by omega), f0.2 400 (by simp)]
            refine x_iconst (v := 3) d_Mo_findFunctions_80 (by decide) ?_
            refine x_icmp_ne (tgt := 92) d_Mo_findFunctions_81 (by decide) (fun c81 => ?_) (fun c81 => ?_)
            · refine x_iconst (v := 0) d_Mo_findFunctions_92 (by decide) ?_
              exact Wq.top (y := bI (fnq σ j n)) (by unfold fnq; rw [decide_eq_false c71, decide_eq_false c81]; rfl) (j93 (bI (useN σ n j)) τ _ f0 hold)
            · refine x_iload_n d_Mo_findFunctions_84 rfl rfl ?_
              refine x_if_eq (tgt := 92) d_Mo_findFunctions_85 (by decide) (fun c85 => ?_) (fun c85 => ?_)
              · refine x_iconst (v := 0) d_Mo_findFunctions_92 (by decide) ?_
                exact Wq.top (y := bI (fnq σ j n)) (by unfold fnq; rw [decide_eq_false c71, bI_0 c85, Bool.and_false]; rfl) (j93 (bI (useN σ n j)) τ _ f0 hold)
              · refine x_iconst (v := 1) d_Mo_findFunctions_88 (by decide) ?_
                refine x_goto (tgt := 93) d_Mo_findFunctions_89 (by decide) ?_
                exact Wq.top (y := bI (fnq σ j n)) (by unfold fnq; rw [decide_eq_false c71, bI_n0 c85, decide_eq_true c81]; rfl) (j93 (bI (useN σ n j)) τ _ f0 hold)
        · have hjN : j < N := Nat.not_le.mp fun z => c19 (nI_le z (by omega))
          refine x_iload_n d_Mo_findFunctions_22 rfl rfl ?_
          refine x_if_ne (tgt := 47) d_Mo_findFunctions_23 (by decide) (fun c23 => ?_) (fun c23 => ?_)
          · refine x_iconst (v := 1) d_Mo_findFunctions_47 (by decide) ?_
            refine x_goto (tgt := 52) d_Mo_findFunctions_48 (by decide) ?_
            refine x_istore_n d_Mo_findFunctions_52 rfl rfl ?_
            refine x_iinc (v := nI (j + 1)) d_Mo_findFunctions_53 rfl (nI_1 j) rfl ?_
            refine x_goto (tgt := 14) d_Mo_findFunctions_56 (by decide) ?_
            refine Wq.fg (ih (j + 1) (by omega) (by omega)) ⟨rfl, rfl, ?_, rfl, trivial⟩
            show some (Value.int _) = some (Value.int (bI (useN σ n (j + 1))))
            congr 2
            unfold useN
            first
            | (rw [bI_n0 c23]; rfl)
            | (rw [bI_0 c23, decide_eq_false c34]; rfl)
            | (rw [bI_0 c23, decide_eq_false c44, Bool.and_false]; rfl)
            | (rw [bI_0 c23, decide_eq_true c34, decide_eq_true c44]; rfl)
          · first | refine x_aload_n d_Mo_findFunctions_26 rfl rfl ?_ | refine x_aloadN_n d_Mo_findFunctions_26 rfl rfl ?_ | refine x_aloadE_n d_Mo_findFunctions_26 rfl rfl ?_ | refine x_aloadO_n d_Mo_findFunctions_26 rfl rfl ?_
            refine x_getR d_Mo_findFunctions_27 f_Mo_35 rfl (by first | exact hM.1 | exact hM.s rfl | assumption) (hM.r rfl) ?_
            refine x_iload_n d_Mo_findFunctions_30 rfl rfl ?_
            refine x_iald d_Mo_findFunctions_31 (by first | exact hM.1 | exact hM.s rfl | assumption) (vp_in_nI (show j < 48 by omega) (by decide)) ?_
            rw [nI_clamp (by omega), f0.2 400 (by simp)]
            refine x_bipush (v := 6) d_Mo_findFunctions_32 (by decide) ?_
            refine x_icmp_ne (tgt := 51) d_Mo_findFunctions_34 (by decide) (fun c34 => ?_) (fun c34 => ?_)
            · refine x_iconst (v := 0) d_Mo_findFunctions_51 (by decide) ?_
              refine x_istore_n d_Mo_findFunctions_52 rfl rfl ?_
              refine x_iinc (v := nI (j + 1)) d_Mo_findFunctions_53 rfl (nI_1 j) rfl ?_
              refine x_goto (tgt := 14) d_Mo_findFunctions_56 (by decide) ?_
              refine Wq.fg (ih (j + 1) (by omega) (by omega)) ⟨rfl, rfl, ?_, rfl, trivial⟩
              show some (Value.int _) = some (Value.int (bI (useN σ n (j + 1))))
              congr 2
              unfold useN
              first
              | (rw [bI_n0 c23]; rfl)
              | (rw [bI_0 c23, decide_eq_false c34]; rfl)
              | (rw [bI_0 c23, decide_eq_false c44, Bool.and_false]; rfl)
              | (rw [bI_0 c23, decide_eq_true c34, decide_eq_true c44]; rfl)
            · first | refine x_aload_n d_Mo_findFunctions_37 rfl rfl ?_ | refine x_aloadN_n d_Mo_findFunctions_37 rfl rfl ?_ | refine x_aloadE_n d_Mo_findFunctions_37 rfl rfl ?_ | refine x_aloadO_n d_Mo_findFunctions_37 rfl rfl ?_
              refine x_getR d_Mo_findFunctions_38 f_Mo_47 rfl (by first | exact hM.1 | exact hM.s rfl | assumption) (hM.r rfl) ?_
              refine x_iload_n d_Mo_findFunctions_41 rfl rfl ?_
              refine x_iald d_Mo_findFunctions_42 (by first | exact hM.1 | exact hM.s rfl | assumption) (vp_in_nI (show j < 48 by omega) (by decide)) ?_
              rw [nI_clamp (by omega), f0.2 404 (by simp)]
              refine x_iload_n d_Mo_findFunctions_43 rfl rfl ?_
              refine x_icmp_ne (tgt := 51) d_Mo_findFunctions_44 (by decide) (fun c44 => ?_) (fun c44 => ?_)
              · refine x_iconst (v := 0) d_Mo_findFunctions_51 (by decide) ?_
                refine x_istore_n d_Mo_findFunctions_52 rfl rfl ?_
                refine x_iinc (v := nI (j + 1)) d_Mo_findFunctions_53 rfl (nI_1 j) rfl ?_
                refine x_goto (tgt := 14) d_Mo_findFunctions_56 (by decide) ?_
                refine Wq.fg (ih (j + 1) (by omega) (by omega)) ⟨rfl, rfl, ?_, rfl, trivial⟩
                show some (Value.int _) = some (Value.int (bI (useN σ n (j + 1))))
                congr 2
                unfold useN
                first
                | (rw [bI_n0 c23]; rfl)
                | (rw [bI_0 c23, decide_eq_false c34]; rfl)
                | (rw [bI_0 c23, decide_eq_false c44, Bool.and_false]; rfl)
                | (rw [bI_0 c23, decide_eq_true c34, decide_eq_true c44]; rfl)
              · refine x_iconst (v := 1) d_Mo_findFunctions_47 (by decide) ?_
                refine x_goto (tgt := 52) d_Mo_findFunctions_48 (by decide) ?_
                refine x_istore_n d_Mo_findFunctions_52 rfl rfl ?_
                refine x_iinc (v := nI (j + 1)) d_Mo_findFunctions_53 rfl (nI_1 j) rfl ?_
                refine x_goto (tgt := 14) d_Mo_findFunctions_56 (by decide) ?_
                refine Wq.fg (ih (j + 1) (by omega) (by omega)) ⟨rfl, rfl, ?_, rfl, trivial⟩
                show some (Value.int _) = some (Value.int (bI (useN σ n (j + 1))))
                congr 2
                unfold useN
                first
                | (rw [bI_n0 c23]; rfl)
                | (rw [bI_0 c23, decide_eq_false c34]; rfl)
                | (rw [bI_0 c23, decide_eq_false c44, Bool.and_false]; rfl)
                | (rw [bI_0 c23, decide_eq_true c34, decide_eq_true c44]; rfl)
      refine x_iconst (v := 0) d_Mo_findFunctions_10 (by decide) ?_
      refine x_istore_n d_Mo_findFunctions_11 rfl rfl ?_
      refine x_iconst (v := 0) d_Mo_findFunctions_12 (by decide) ?_
      refine x_istore_n d_Mo_findFunctions_13 rfl rfl ?_
      exact Wq.fg (l14 τ f0 hold (N + 1) 0 (by omega) (by omega)) ⟨rfl, rfl, rfl, by rw [nI_0], trivial⟩
  refine Ct.of (lv := [some (rf G 391), none, none, none]) (ll := []) rfl rfl (EN.cat (n := 3) ⟨rfl, trivial⟩ (Nat.le_of_ble_eq_true rfl)) ?_
  refine x_iconst (v := 0) d_Mo_findFunctions_0 (by decide) ?_
  refine x_istore_n d_Mo_findFunctions_1 rfl rfl ?_
  exact Wq.fg (lp (N + 1) 0 σ none none (by omega) (by omega) FrI.rf (fun m hm => absurd hm (Nat.not_lt_zero _))) ⟨rfl, by rw [nI_0], trivial⟩
