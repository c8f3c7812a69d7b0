/-! ResidualProgram: addAllBelow, writeFold, writeLet -/
def tRs (T : TS) (n : Nat) (l : List Int32) : TS := tUp T n (xs (tD T n) l)
theorem upN_upN {α : Type} {f : Nat → α} {n : Nat} {x y : α} : upN (upN f n x) n y = upN f n y := by
  funext k
  simp only [upN]
  split <;> rfl
theorem tUp_tUp {T : TS} {n : Nat} {x y : ND} : tUp (tUp T n x) n y = tUp T n y := by
  show (T.1, T.2.1, T.2.2.1, upN (upN T.2.2.2 n x) n y) = (T.1, T.2.1, T.2.2.1, upN T.2.2.2 n y)
  rw [upN_upN]
theorem tRs_ne {T : TS} {n k : Nat} {l : List Int32} (h : k ≠ n) : tD (tRs T n l) k = tD T k := tD_ne h
theorem tRs_at {T : TS} {n : Nat} {l : List Int32} : tD (tRs T n l) n = xs (tD T n) l := tD_up
theorem tRs_lk {T : TS} {n k : Nat} {l : List Int32} : (tD (tRs T n l) k).2.1 = (tD T k).2.1 ∧ (tD (tRs T n l) k).1 = (tD T k).1 ∧ ntm (tD (tRs T n l) k) = ntm (tD T k) := by
  by_cases z : k = n
  · subst z; rw [tRs_at]; exact ⟨rfl, rfl, rfl⟩
  · rw [tRs_ne z]; exact ⟨rfl, rfl, rfl⟩
theorem BW.rs {T : TS} {n : Nat} {l : List Int32} (h : BW T) : BW (tRs T n l) := fun k hk m hm => h k hk m (by rw [tRs_lk.1] at hm; exact hm)
theorem isTree.rs {Γ : List Sh} {σ σ' : Mem} {T : TS} {n : Nat} {l l' : List Int32} (h : isTree Γ σ (tRs T n l)) (hn : n < 48) (hr : isRow Γ σ' (136 + 5 * n) 100 l') (hf : FrI [136 + 5 * n, 136 + 5 * n + 1] σ σ') : isTree Γ σ' (tRs T n l') := by
  have h1 := h.up hn (hf.P (by simp [inN] <;> omega)) ((h.nd hn).s hr hf)
  have e : tUp (tRs T n l) n (xs (tD (tRs T n l) n) l') = tRs T n l' := by
    rw [tRs_at]
    exact tUp_tUp
  rw [e] at h1
  exact h1
theorem tRs_self {T : TS} {n : Nat} : tRs T n (nrs (tD T n)) = T := by
  show (T.1, T.2.1, T.2.2.1, upN T.2.2.2 n (xs (T.2.2.2 n) (nrs (T.2.2.2 n)))) = T
  have e : upN T.2.2.2 n (xs (T.2.2.2 n) (nrs (T.2.2.2 n))) = T.2.2.2 := by
    funext k
    simp only [upN]
    split
    · next z => rw [z]; rfl
    · rfl
  rw [e]
theorem isTree.rs0 {Γ : List Sh} {σ : Mem} {T : TS} {n : Nat} (h : isTree Γ σ T) : isTree Γ σ (tRs T n (nrs (tD T n))) := by rw [tRs_self]; exact h
def aabL (T : TS) : Nat → Option Nat → List Int32 → List Int32
  | 0, _, l => l
  | _ + 1, none, l => l
  | f + 1, some u, l => aabL T f ((tD T u).2.1 6) (l ++ r100 T u)
theorem aabL_none {T : TS} {l : List Int32} : ∀ f, aabL T f none l = l
  | 0 => rfl
  | _ + 1 => rfl
theorem aabL_rs {T : TS} {n : Nat} {l' : List Int32} (hB : BW T) : ∀ {f : Nat} {o : Option Nat} {l : List Int32}, (∀ u, o = some u → n < u ∧ u < tN T) → aabL (tRs T n l') f o l = aabL T f o l
  | 0, o, l, h => rfl
  | f + 1, none, l, h => rfl
  | f + 1, some u, l, h => by
    have hu := h u rfl
    unfold aabL
    have e1 : tD (tRs T n l') u = tD T u := tRs_ne (by omega)
    have e2 : r100 (tRs T n l') u = r100 T u := by unfold r100; rw [e1]
    rw [e1, e2]
    exact aabL_rs hB (fun w hw => by have := hB u hu.2 w (Or.inr hw); omega)
set_option maxRecDepth 10000 in
set_option maxHeartbeats 1000000 in
theorem c_ResidualProgram_addAllBelow {G : Ctx} {d : Nat} {Γ : List Sh} {σ : Mem} {Q : Option Value → List Sh → Mem → Prop} {T : TS} {n : Nat}  (hT : isTree Γ σ T) (hB : BW T) (hn2 : n < tN T) (hQ : ∀ σ', isTree Γ σ' (tRs T n (aabL T 48 ((tD T n).2.1 4) (nrs (tD T n)))) → FrP (inN n) σ σ' → Q none Γ σ') : Ct G M_ResidualProgram_addAllBelow (d + 2) 0 0 [rf G (133 + 5 * n)] Γ σ Q := by
  obtain ⟨-, -, -, ⟨-, t4b⟩, -⟩ := id hT
  have hn : n < 48 := by omega
  have hN := hT.nd hn
  obtain ⟨m0, ⟨i0, ii⟩, ⟨q1, q2, qq⟩, nt, nr⟩ := id hN
  have lp : ∀ (f : Nat) (o : Option Nat) (l : List Int32) (τ : Mem), (∀ u, o = some u → n < u ∧ u < tN T ∧ 48 ≤ u + f) → aabL T f o l = (aabL T 48 ((tD T n).2.1 4) (nrs (tD T n))) → isTree Γ τ (tRs T n l) → FrP (inN n) σ τ → Wq G M_ResidualProgram_addAllBelow (Em G (d + 2) 0 0 Q) 0 0 5 [some (rf G (133 + 5 * n)), some (ov G (o.map nc))] [] [] Γ τ := by
    intro f
    induction f with
    | zero =>
      intro o l τ h1 h2 T1 f0
      have ho : o = none := by
        cases o with
        | none => rfl
        | some u => exact absurd (h1 u rfl) (by omega)
      subst ho
      first | refine x_aload_n d_ResidualProgram_addAllBelow_5 rfl rfl ?_ | refine x_aloadN_n d_ResidualProgram_addAllBelow_5 rfl rfl ?_ | refine x_aloadE_n d_ResidualProgram_addAllBelow_5 rfl rfl ?_ | refine x_aloadO_n d_ResidualProgram_addAllBelow_5 rfl rfl ?_
      refine x_ifnullN (tgt := 36) d_ResidualProgram_addAllBelow_6 (by decide) ?_
      exact x_return d_ResidualProgram_addAllBelow_36 rfl (by rw [aabL_none] at h2; rw [← h2] at hQ; exact hQ τ T1 f0)
    | succ f ih =>
      intro o l τ h1 h2 T1 f0
      first | refine x_aload_n d_ResidualProgram_addAllBelow_5 rfl rfl ?_ | refine x_aloadN_n d_ResidualProgram_addAllBelow_5 rfl rfl ?_ | refine x_aloadE_n d_ResidualProgram_addAllBelow_5 rfl rfl ?_ | refine x_aloadO_n d_ResidualProgram_addAllBelow_5 rfl rfl ?_
      rcases hO6 : o with _ | k6
      · subst hO6
        refine x_ifnullN (tgt := 36) d_ResidualProgram_addAllBelow_6 (by decide) ?_
        exact x_return d_ResidualProgram_addAllBelow_36 rfl (by rw [aabL_none] at h2; rw [← h2] at hQ; exact hQ τ T1 f0)
      · subst hO6
        have hu := h1 _ rfl
        have hu48 : k6 < 48 := by omega
        have eu : tD (tRs T n l) k6 = tD T k6 := tRs_ne (by omega)
        have uu := T1.nd hu48
        rw [eu] at uu
        have N1 := T1.nd hn
        rw [tRs_at] at N1
        refine x_ifnull d_ResidualProgram_addAllBelow_6 ?_
        first | refine x_aload_n d_ResidualProgram_addAllBelow_9 rfl rfl ?_ | refine x_aloadN_n d_ResidualProgram_addAllBelow_9 rfl rfl ?_ | refine x_aloadE_n d_ResidualProgram_addAllBelow_9 rfl rfl ?_ | refine x_aloadO_n d_ResidualProgram_addAllBelow_9 rfl rfl ?_
        refine x_getR d_ResidualProgram_addAllBelow_10 f_ResidualProgram_21 rfl (by exact N1.1) (N1.2.2.1.2.1) ?_
        first | refine x_aload_n d_ResidualProgram_addAllBelow_13 rfl rfl ?_ | refine x_aloadN_n d_ResidualProgram_addAllBelow_13 rfl rfl ?_ | refine x_aloadE_n d_ResidualProgram_addAllBelow_13 rfl rfl ?_ | refine x_aloadO_n d_ResidualProgram_addAllBelow_13 rfl rfl ?_
        refine x_getR d_ResidualProgram_addAllBelow_14 f_ResidualProgram_21 rfl (by exact uu.1) (uu.2.2.1.2.1) ?_
        refine x_iconst (v := 0) d_ResidualProgram_addAllBelow_17 (by decide) ?_
        first | refine x_aload_n d_ResidualProgram_addAllBelow_18 rfl rfl ?_ | refine x_aloadN_n d_ResidualProgram_addAllBelow_18 rfl rfl ?_ | refine x_aloadE_n d_ResidualProgram_addAllBelow_18 rfl rfl ?_ | refine x_aloadO_n d_ResidualProgram_addAllBelow_18 rfl rfl ?_
        refine x_getR d_ResidualProgram_addAllBelow_19 f_ResidualProgram_21 rfl (by exact uu.1) (uu.2.2.1.2.1) ?_
        refine x_callV0 d_ResidualProgram_addAllBelow_22 k_Row_length l_ResidualProgram_96 v_Row_length rfl s_Row_length (by exact uu.2.2.2.2.1) RoomE.m (Nat.le_of_ble_eq_true rfl) (c_Row_length uu.2.2.2.2 ?_)
        refine x_callV3 d_ResidualProgram_addAllBelow_25 k_Row_addRange l_ResidualProgram_129 v_Row_addRange rfl s_Row_addRange (by exact N1.2.2.2.2.1) RoomE.m (Nat.le_of_ble_eq_true rfl) (c_Row_addRange' (f := 0) nI_0.symm rfl N1.2.2.2.2 uu.2.2.2.2 (by omega) (by omega) (by have := uu.2.2.2.2.tl; omega) (fun τ2 r2 f2 => ?_))
        first | refine x_aload_n d_ResidualProgram_addAllBelow_28 rfl rfl ?_ | refine x_aloadN_n d_ResidualProgram_addAllBelow_28 rfl rfl ?_ | refine x_aloadE_n d_ResidualProgram_addAllBelow_28 rfl rfl ?_ | refine x_aloadO_n d_ResidualProgram_addAllBelow_28 rfl rfl ?_
        refine x_getQ d_ResidualProgram_addAllBelow_29 f_ResidualProgram_74 rfl (by exact uu.1) ((congrFun (congrFun (congrArg Prod.fst f2.1) _) _).trans (uu.2.2.1.2.2 6 rfl).1) ?_
        first | refine x_astore_n d_ResidualProgram_addAllBelow_32 rfl rfl ?_ | refine x_astoreN_n d_ResidualProgram_addAllBelow_32 rfl rfl ?_ | refine x_astoreE_n d_ResidualProgram_addAllBelow_32 rfl rfl ?_ | refine x_astoreO_n d_ResidualProgram_addAllBelow_32 rfl rfl ?_
        refine x_goto (tgt := 5) d_ResidualProgram_addAllBelow_33 (by decide) ?_
        rw [List.take_of_length_le (Nat.le_refl _), List.drop_zero] at r2
        exact Wq.fg (ih _ (l ++ r100 T k6) τ2 (fun u hv => by have := hB k6 hu.2.1 u (Or.inr hv); omega) (by rw [aabL] at h2; exact h2) (T1.rs hn r2 f2) (f0.tr (f2.P (by simp [inN] <;> omega)))) ⟨rfl, rfl, trivial⟩
  refine Ct.of (lv := [some (rf G (133 + 5 * n)), none]) (ll := []) rfl rfl (EN.cat (n := 1) ⟨rfl, trivial⟩ (Nat.le_of_ble_eq_true rfl)) ?_
  first | refine x_aload_n d_ResidualProgram_addAllBelow_0 rfl rfl ?_ | refine x_aloadN_n d_ResidualProgram_addAllBelow_0 rfl rfl ?_ | refine x_aloadE_n d_ResidualProgram_addAllBelow_0 rfl rfl ?_ | refine x_aloadO_n d_ResidualProgram_addAllBelow_0 rfl rfl ?_
  refine x_getQ d_ResidualProgram_addAllBelow_1 f_ResidualProgram_52 rfl (by assumption) ((qq 4 rfl).1) ?_
  first | refine x_astore_n d_ResidualProgram_addAllBelow_4 rfl rfl ?_ | refine x_astoreN_n d_ResidualProgram_addAllBelow_4 rfl rfl ?_ | refine x_astoreE_n d_ResidualProgram_addAllBelow_4 rfl rfl ?_ | refine x_astoreO_n d_ResidualProgram_addAllBelow_4 rfl rfl ?_
  exact lp 48 _ _ σ (fun u hu => by have := hB n hn2 u (Or.inl hu); omega) rfl hT.rs0 FrP.rf
def wfM (T : TS) (n u : Nat) (s : Int32) : Int32 := atI (t40 T n) (idxI (t40 T u) s)
def wfL (T : TS) (n : Nat) : List Int32 := match (tD T n).2.1 9 with
  | none => nrs (tD T n)
  | some u => nrs (tD T n) ++ [300 + nI u] ++ ((r100 T u).drop 1).map (wfM T n u)
def GW (T : TS) : Prop := ∀ n, n < tN T → ∀ u, (tD T n).2.1 9 = some u → u < n
theorem GW.rs {T : TS} {n : Nat} {l : List Int32} (h : GW T) : GW (tRs T n l) := fun k hk m hm => h k hk m (by rw [tRs_lk.1] at hm; exact hm)
set_option maxRecDepth 10000 in
set_option maxHeartbeats 1000000 in
theorem c_ResidualProgram_writeFold {G : Ctx} {d : Nat} {Γ : List Sh} {σ : Mem} {Q : Option Value → List Sh → Mem → Prop} {T : TS} {n : Nat}  (hT : isTree Γ σ T) (hW : GW T) (hn2 : n < tN T) (hQ : ∀ σ', isTree Γ σ' (tRs T n (wfL T n)) → FrP (inN n) σ σ' → Q none Γ σ') : Ct G M_ResidualProgram_writeFold (d + 2) 0 0 [rf G (133 + 5 * n)] Γ σ Q := by
  obtain ⟨-, -, -, ⟨-, t4b⟩, -⟩ := id hT
  have hn : n < 48 := by omega
  have hN := hT.nd hn
  obtain ⟨m0, ⟨i0, ii⟩, ⟨q1, q2, qq⟩, nt, nr⟩ := id hN
  refine Ct.of (lv := [some (rf G (133 + 5 * n)), none, none, none]) (ll := []) rfl rfl (EN.cat (n := 3) ⟨rfl, trivial⟩ (Nat.le_of_ble_eq_true rfl)) ?_
  first | refine x_aload_n d_ResidualProgram_writeFold_0 rfl rfl ?_ | refine x_aloadN_n d_ResidualProgram_writeFold_0 rfl rfl ?_ | refine x_aloadE_n d_ResidualProgram_writeFold_0 rfl rfl ?_ | refine x_aloadO_n d_ResidualProgram_writeFold_0 rfl rfl ?_
  refine x_getQ d_ResidualProgram_writeFold_1 f_ResidualProgram_80 rfl (by assumption) ((qq 9 rfl).1) ?_
  rcases ho : (tD T n).2.1 9 with _ | u
  · show Wq _ _ _ _ _ _ _ _ [.null] _ _
    first | refine x_astore_n d_ResidualProgram_writeFold_4 rfl rfl ?_ | refine x_astoreN_n d_ResidualProgram_writeFold_4 rfl rfl ?_ | refine x_astoreE_n d_ResidualProgram_writeFold_4 rfl rfl ?_ | refine x_astoreO_n d_ResidualProgram_writeFold_4 rfl rfl ?_
    first | refine x_aload_n d_ResidualProgram_writeFold_5 rfl rfl ?_ | refine x_aloadN_n d_ResidualProgram_writeFold_5 rfl rfl ?_ | refine x_aloadE_n d_ResidualProgram_writeFold_5 rfl rfl ?_ | refine x_aloadO_n d_ResidualProgram_writeFold_5 rfl rfl ?_
    refine x_ifnonnullN d_ResidualProgram_writeFold_6 ?_
    exact x_return d_ResidualProgram_writeFold_9 rfl (by rw [wfL, ho] at hQ; exact hQ σ hT.rs0 FrP.rf)
  · show Wq _ _ _ _ _ _ _ _ [rf G (133 + 5 * u)] _ _
    have hu : u < n := hW n hn2 u ho
    have uu := hT.nd (show u < 48 by omega)
    have hrl : (r100 T u).length ≤ 100 := by rw [r100, List.length_take]; omega
    rw [wfL, ho] at hQ
    have lp : ∀ (k : Nat) (i : Nat) (l : List Int32) (τ : Mem), 1 ≤ i → i + k = max (r100 T u).length 1 → l ++ ((r100 T u).drop i).map (wfM T n u) = (nrs (tD T n) ++ [300 + nI u] ++ ((r100 T u).drop 1).map (wfM T n u)) → isTree Γ τ (tRs T n l) → FrP (inN n) σ τ → Wq G M_ResidualProgram_writeFold (Em G (d + 2) 0 0 Q) 0 0 27 [some (rf G (133 + 5 * n)), some (rf G (133 + 5 * u)), some (.int (nI i)), none] [] [] Γ τ := by
      intro k
      induction k with
      | zero =>
        intro i l τ h0 h1 h2 T1 f0
        have N1 := T1.nd hn
        rw [tRs_at] at N1
        have uu := T1.nd (show u < 48 by omega)
        rw [tRs_ne (show u ≠ n by omega)] at uu
        refine x_iload_n d_ResidualProgram_writeFold_27 rfl rfl ?_
        first | refine x_aload_n d_ResidualProgram_writeFold_28 rfl rfl ?_ | refine x_aloadN_n d_ResidualProgram_writeFold_28 rfl rfl ?_ | refine x_aloadE_n d_ResidualProgram_writeFold_28 rfl rfl ?_ | refine x_aloadO_n d_ResidualProgram_writeFold_28 rfl rfl ?_
        refine x_getR d_ResidualProgram_writeFold_29 f_ResidualProgram_21 rfl (by exact uu.1) (uu.2.2.1.2.1) ?_
        refine x_callV0 d_ResidualProgram_writeFold_32 k_Row_length l_ResidualProgram_96 v_Row_length rfl s_Row_length (by exact uu.2.2.2.2.1) RoomE.m (Nat.le_of_ble_eq_true rfl) (c_Row_length uu.2.2.2.2 ?_)
        refine x_icmp_ge (tgt := 75) d_ResidualProgram_writeFold_35 (by decide) (fun c35 => ?_) (fun c35 => ?_)
        · exact x_return d_ResidualProgram_writeFold_75 rfl (by rw [List.drop_eq_nil_of_le (show (r100 T u).length ≤ i by omega), List.map_nil, List.append_nil] at h2; rw [h2] at T1; exact hQ τ T1 f0)
        · exact absurd (nI_le (show (r100 T u).length ≤ i by omega) (by omega)) c35
      | succ k ih =>
        intro i l τ h0 h1 h2 T1 f0
        have N1 := T1.nd hn
        rw [tRs_at] at N1
        have uu := T1.nd (show u < 48 by omega)
        rw [tRs_ne (show u ≠ n by omega)] at uu
        refine x_iload_n d_ResidualProgram_writeFold_27 rfl rfl ?_
        first | refine x_aload_n d_ResidualProgram_writeFold_28 rfl rfl ?_ | refine x_aloadN_n d_ResidualProgram_writeFold_28 rfl rfl ?_ | refine x_aloadE_n d_ResidualProgram_writeFold_28 rfl rfl ?_ | refine x_aloadO_n d_ResidualProgram_writeFold_28 rfl rfl ?_
        refine x_getR d_ResidualProgram_writeFold_29 f_ResidualProgram_21 rfl (by exact uu.1) (uu.2.2.1.2.1) ?_
        refine x_callV0 d_ResidualProgram_writeFold_32 k_Row_length l_ResidualProgram_96 v_Row_length rfl s_Row_length (by exact uu.2.2.2.2.1) RoomE.m (Nat.le_of_ble_eq_true rfl) (c_Row_length uu.2.2.2.2 ?_)
        refine x_icmp_ge (tgt := 75) d_ResidualProgram_writeFold_35 (by decide) (fun c35 => ?_) (fun c35 => ?_)
        · have c35b : nI (r100 T u).length ≤ nI i := c35
          rw [nI_leI (by omega) (by omega)] at c35b; omega
        · first | refine x_aload_n d_ResidualProgram_writeFold_38 rfl rfl ?_ | refine x_aloadN_n d_ResidualProgram_writeFold_38 rfl rfl ?_ | refine x_aloadE_n d_ResidualProgram_writeFold_38 rfl rfl ?_ | refine x_aloadO_n d_ResidualProgram_writeFold_38 rfl rfl ?_
          refine x_getR d_ResidualProgram_writeFold_39 f_ResidualProgram_93 rfl (by exact uu.1) (uu.2.2.1.1) ?_
          first | refine x_aload_n d_ResidualProgram_writeFold_42 rfl rfl ?_ | refine x_aloadN_n d_ResidualProgram_writeFold_42 rfl rfl ?_ | refine x_aloadE_n d_ResidualProgram_writeFold_42 rfl rfl ?_ | refine x_aloadO_n d_ResidualProgram_writeFold_42 rfl rfl ?_
          refine x_getR d_ResidualProgram_writeFold_43 f_ResidualProgram_21 rfl (by exact uu.1) (uu.2.2.1.2.1) ?_
          refine x_iload_n d_ResidualProgram_writeFold_46 rfl rfl ?_
          refine x_callV1 d_ResidualProgram_writeFold_47 k_Row_at l_ResidualProgram_60 v_Row_at rfl s_Row_at (by exact uu.2.2.2.2.1) RoomE.m (Nat.le_of_ble_eq_true rfl) (c_Row_at uu.2.2.2.2 ?_)
          rw [atI_nI (by omega)]
          refine x_callV1 d_ResidualProgram_writeFold_50 k_Row_indexOf l_ResidualProgram_103 v_Row_indexOf rfl s_Row_indexOf (by exact uu.2.2.2.1.1) RoomE.m (Nat.le_of_ble_eq_true rfl) (c_Row_indexOf uu.2.2.2.1 ?_)
          refine x_istore_n d_ResidualProgram_writeFold_53 rfl rfl ?_
          first | refine x_aload_n d_ResidualProgram_writeFold_54 rfl rfl ?_ | refine x_aloadN_n d_ResidualProgram_writeFold_54 rfl rfl ?_ | refine x_aloadE_n d_ResidualProgram_writeFold_54 rfl rfl ?_ | refine x_aloadO_n d_ResidualProgram_writeFold_54 rfl rfl ?_
          refine x_getR d_ResidualProgram_writeFold_55 f_ResidualProgram_21 rfl (by exact N1.1) (N1.2.2.1.2.1) ?_
          first | refine x_aload_n d_ResidualProgram_writeFold_58 rfl rfl ?_ | refine x_aloadN_n d_ResidualProgram_writeFold_58 rfl rfl ?_ | refine x_aloadE_n d_ResidualProgram_writeFold_58 rfl rfl ?_ | refine x_aloadO_n d_ResidualProgram_writeFold_58 rfl rfl ?_
          refine x_getR d_ResidualProgram_writeFold_59 f_ResidualProgram_93 rfl (by exact N1.1) (N1.2.2.1.1) ?_
          refine x_iload_n d_ResidualProgram_writeFold_62 rfl rfl ?_
          refine x_callV1 d_ResidualProgram_writeFold_63 k_Row_at l_ResidualProgram_60 v_Row_at rfl s_Row_at (by exact N1.2.2.2.1.1) RoomE.m (Nat.le_of_ble_eq_true rfl) (c_Row_at N1.2.2.2.1 ?_)
          refine x_callV1 d_ResidualProgram_writeFold_66 k_Row_add l_ResidualProgram_86 v_Row_add rfl s_Row_add (by exact N1.2.2.2.2.1) RoomE.m (Nat.le_of_ble_eq_true rfl) (c_Row_add N1.2.2.2.2 (fun τ2 r2 f2 => ?_))
          refine x_iinc (v := nI (i + 1)) d_ResidualProgram_writeFold_69 rfl (nI_1 i) rfl ?_
          refine x_goto (tgt := 27) d_ResidualProgram_writeFold_72 (by decide) ?_
          exact Wq.fg (ih (i + 1) (l ++ [wfM T n u ((r100 T u).getD i (-1))]) τ2 (by omega) (by omega) (by rw [List.append_assoc]; rw [drop_cons (show i < (r100 T u).length by omega), List.map_cons] at h2; exact h2) (T1.rs hn r2 f2) (f0.tr (f2.P (by simp [inN] <;> omega)))) ⟨rfl, rfl, rfl, trivial⟩
    first | refine x_astore_n d_ResidualProgram_writeFold_4 rfl rfl ?_ | refine x_astoreN_n d_ResidualProgram_writeFold_4 rfl rfl ?_ | refine x_astoreE_n d_ResidualProgram_writeFold_4 rfl rfl ?_ | refine x_astoreO_n d_ResidualProgram_writeFold_4 rfl rfl ?_
    first | refine x_aload_n d_ResidualProgram_writeFold_5 rfl rfl ?_ | refine x_aloadN_n d_ResidualProgram_writeFold_5 rfl rfl ?_ | refine x_aloadE_n d_ResidualProgram_writeFold_5 rfl rfl ?_ | refine x_aloadO_n d_ResidualProgram_writeFold_5 rfl rfl ?_
    refine x_ifnonnull (tgt := 10) d_ResidualProgram_writeFold_6 (by decide) ?_
    first | refine x_aload_n d_ResidualProgram_writeFold_10 rfl rfl ?_ | refine x_aloadN_n d_ResidualProgram_writeFold_10 rfl rfl ?_ | refine x_aloadE_n d_ResidualProgram_writeFold_10 rfl rfl ?_ | refine x_aloadO_n d_ResidualProgram_writeFold_10 rfl rfl ?_
    refine x_getR d_ResidualProgram_writeFold_11 f_ResidualProgram_21 rfl (by exact m0) (q2) ?_
    refine x_sipush (v := 300) d_ResidualProgram_writeFold_14 (by decide) ?_
    first | refine x_aload_n d_ResidualProgram_writeFold_17 rfl rfl ?_ | refine x_aloadN_n d_ResidualProgram_writeFold_17 rfl rfl ?_ | refine x_aloadE_n d_ResidualProgram_writeFold_17 rfl rfl ?_ | refine x_aloadO_n d_ResidualProgram_writeFold_17 rfl rfl ?_
    refine x_getI d_ResidualProgram_writeFold_18 f_ResidualProgram_83 rfl (by exact uu.1) ?_
    rw [uu.2.1.1]
    refine x_iadd d_ResidualProgram_writeFold_21 ?_
    refine x_callV1 d_ResidualProgram_writeFold_22 k_Row_add l_ResidualProgram_86 v_Row_add rfl s_Row_add (by exact nr.1) RoomE.m (Nat.le_of_ble_eq_true rfl) (c_Row_add nr (fun τ1 r1 f1 => ?_))
    refine x_iconst (v := 1) d_ResidualProgram_writeFold_25 (by decide) ?_
    refine x_istore_n d_ResidualProgram_writeFold_26 rfl rfl ?_
    exact Wq.fg (lp (max (r100 T u).length 1 - 1) 1 _ τ1 (by omega) (by omega) rfl (hT.rs0.rs hn r1 f1) (f1.P (by simp [inN] <;> omega))) ⟨rfl, rfl, rfl, trivial⟩
def letE (T : TS) : Nat → Option Nat → Int32 → (Int32 → List Int32) → Int32 → List Int32
  | 0, _, _, F => F
  | _ + 1, none, _, F => F
  | f + 1, some u, v, F => letE T f ((tD T u).2.1 6) (v + 1) (fun s => if isV s = true ∧ s = v then r100 T u else F s)
theorem letE_none {T : TS} {v : Int32} {F : Int32 → List Int32} : ∀ f, letE T f none v F = F
  | 0 => rfl
  | _ + 1 => rfl
def wlL (T : TS) (n : Nat) : List Int32 := match (tD T n).2.1 4 with
  | none => nrs (tD T n)
  | some q => nrs (tD T n) ++ (r100 T q).flatMap (letE T 48 ((tD T q).2.1 6) ((tD T n).1 13) (fun s => [s]))
theorem c_bind2' {G : Ctx} {d : Nat} {Γ : List Sh} {σ : Mem} {Q : Option Value → List Sh → Mem → Prop} {c k rr f t m : Nat} {v x y : Int32} {os : List Int32} {β : Nat → Option (Nat × Nat × Nat)} (hx : x = nI f) (hy : y = nI t) (hS : isSub Γ σ c k β) (hO : isRow Γ σ rr m os) (hQ : ∀ σ', isSub Γ σ' c k (if isV v = true then upN β v.toNatClampNeg (some (rr, f, t)) else β) → Fr [c + 1, c + 2, c + 3, c + 4] σ σ' → Q none Γ σ') : Ct G M_Substitution_bind (d + 1) 0 0 [rf G c, .int v, rf G rr, .int x, .int y] Γ σ Q := by
  subst hx hy
  exact c_bind2 hS hO hQ
theorem okE2 {Γ : List Sh} {τ τ' : Mem} {k rt rr : Nat} {β : Nat → Option (Nat × Nat × Nat)} {B : Nat → List Int32} {F : Int32 → List Int32} {v : Int32} {os : List Int32} (hb : bdOK Γ τ rt β B) (he : ∀ s, sub1 β B s = F s) (hs : isSub Γ τ' 22 k (if isV v = true then upN β v.toNatClampNeg (some (rr, 0, (os.take 100).length)) else β)) (hR : isRow Γ τ rr 100 os) (hne : rr ≠ rt) (hf : Fr [23, 24, 25, 26] τ τ') (hall : ∀ v rr f t, v < 100 → β v = some (rr, f, t) → 27 ≤ rr) (hrr : 27 ≤ rr) : ∃ β B, isSub Γ τ' 22 k β ∧ bdOK Γ τ' rt β B ∧ (∀ s, sub1 β B s = (fun s => if isV s = true ∧ s = v then os.take 100 else F s) s) ∧ (∀ v rr f t, v < 100 → β v = some (rr, f, t) → 27 ≤ rr) := by
  have tl := hR.tl
  by_cases hv : isV v = true
  · rw [if_pos hv] at hs
    refine ⟨_, upN B v.toNatClampNeg (os.take 100), hs, ?_, ?_, ?_⟩
    · intro v' rr' f t h1 h2
      by_cases e : v' = v.toNatClampNeg
      · subst e
        simp only [upN, if_true] at h2
        cases h2
        refine ⟨hne, by omega, by omega, 100, os, hR.Fr hf (by simp; omega) (by simp; omega), ?_⟩
        rw [List.take_of_length_le (Nat.le_refl _), List.drop_zero]
        simp [upN]
      · simp only [upN, if_neg e] at h2
        obtain ⟨a, b, c, m, os', d, e2⟩ := hb v' rr' f t h1 h2
        have h27 := hall v' rr' f t h1 h2
        exact ⟨a, b, c, m, os', d.Fr hf (by simp; omega) (by simp; omega), by simp only [upN, if_neg e]; exact e2⟩
    · intro s
      show _ = if isV s = true ∧ s = v then os.take 100 else F s
      by_cases hs2 : isV s = true
      · by_cases e : s = v
        · rw [if_pos ⟨hs2, e⟩, e, sub1, if_pos hv]
          simp [upN]
        · rw [if_neg (fun z => e z.2), ← he s, sub1, sub1, if_pos hs2, if_pos hs2]
          have : ¬ s.toNatClampNeg = v.toNatClampNeg := fun z => e (isV_inj hs2 hv z)
          simp [upN, this]
      · rw [if_neg (fun z => hs2 z.1), ← he s, sub1, sub1, if_neg hs2, if_neg hs2]
    · intro v' rr' f t h1 h2
      by_cases e : v' = v.toNatClampNeg
      · subst e
        simp only [upN, if_true] at h2
        cases h2
        exact hrr
      · simp only [upN, if_neg e] at h2
        exact hall v' rr' f t h1 h2
  · rw [if_neg hv] at hs
    refine ⟨β, B, hs, ?_, ?_, hall⟩
    · intro v' rr' f t h1 h2
      obtain ⟨a, b, c, m, os', d, e2⟩ := hb v' rr' f t h1 h2
      have h27 := hall v' rr' f t h1 h2
      exact ⟨a, b, c, m, os', d.Fr hf (by simp; omega) (by simp; omega), e2⟩
    · intro s
      show _ = if isV s = true ∧ s = v then os.take 100 else F s
      rw [if_neg (show ¬ (isV s = true ∧ s = v) from fun z => hv (z.2 ▸ z.1))]
      exact he s
set_option maxRecDepth 10000 in
set_option maxHeartbeats 1000000 in
theorem c_ResidualProgram_writeLet {G : Ctx} {d : Nat} {Γ : List Sh} {σ : Mem} {Q : Option Value → List Sh → Mem → Prop} {T : TS} {n K : Nat}  (hRs : isRes Γ σ) (hT : isTree Γ σ T) (hS : isSb Γ σ K) (hK : K < 1000000000) (hB : BW T) (hn2 : n < tN T) (hQ : ∀ σ', isTree Γ σ' (tRs T n (wlL T n)) → isSb Γ σ' (K + 1) → FrP (fun a => (22 ≤ a ∧ a ≤ 26) ∨ inN n a) σ σ' → Q none Γ σ') : Ct G M_ResidualProgram_writeLet (d + 3) 0 0 [rf G 385, rf G (133 + 5 * n)] Γ σ Q := by
  obtain ⟨p0, p1, p2, p3⟩ := id hRs
  obtain ⟨-, -, -, ⟨-, t4b⟩, -⟩ := id hT
  have hn : n < 48 := by omega
  have hN := hT.nd hn
  obtain ⟨m0, ⟨i0, ii⟩, ⟨q1, q2, qq⟩, nt, nr⟩ := id hN
  refine Ct.of (lv := [some (rf G 385), some (rf G (133 + 5 * n)), none, none, none]) (ll := []) rfl rfl (EN.cat (n := 3) ⟨rfl, rfl, trivial⟩ (Nat.le_of_ble_eq_true rfl)) ?_
  first | refine x_aload_n d_ResidualProgram_writeLet_0 rfl rfl ?_ | refine x_aloadN_n d_ResidualProgram_writeLet_0 rfl rfl ?_ | refine x_aloadE_n d_ResidualProgram_writeLet_0 rfl rfl ?_ | refine x_aloadO_n d_ResidualProgram_writeLet_0 rfl rfl ?_
  refine x_getQ d_ResidualProgram_writeLet_1 f_ResidualProgram_52 rfl (by exact m0) ((qq 4 rfl).1) ?_
  rcases ho : (tD T n).2.1 4 with _ | q
  · show Wq _ _ _ _ _ _ _ _ [.null] _ _
    first | refine x_astore_n d_ResidualProgram_writeLet_4 rfl rfl ?_ | refine x_astoreN_n d_ResidualProgram_writeLet_4 rfl rfl ?_ | refine x_astoreE_n d_ResidualProgram_writeLet_4 rfl rfl ?_ | refine x_astoreO_n d_ResidualProgram_writeLet_4 rfl rfl ?_
    first | refine x_aload_n d_ResidualProgram_writeLet_5 rfl rfl ?_ | refine x_aloadN_n d_ResidualProgram_writeLet_5 rfl rfl ?_ | refine x_aloadE_n d_ResidualProgram_writeLet_5 rfl rfl ?_ | refine x_aloadO_n d_ResidualProgram_writeLet_5 rfl rfl ?_
    refine x_ifnonnullN d_ResidualProgram_writeLet_6 ?_
    exact x_return d_ResidualProgram_writeLet_9 rfl (by rw [wlL, ho] at hQ; exact hQ σ hT.rs0 (hS.mono (by omega)) FrP.rf)
  · show Wq _ _ _ _ _ _ _ _ [rf G (133 + 5 * q)] _ _
    have hq := hB n hn2 q (Or.inl ho)
    have hq48 : q < 48 := by omega
    have uq := hT.nd hq48
    obtain ⟨k0, β0, hk0, hSub⟩ := id hS
    rw [wlL, ho] at hQ
    have TT : ∀ {τ : Mem}, Fr [22, 23, 24, 25, 26] σ τ → isTree Γ τ T := fun h => hT.P (h.P (T := fun a => 22 ≤ a ∧ a ≤ 26) (by simp)) (fun a ha hb => by unfold inT at ha; omega)
    have Rs : ∀ {τ : Mem}, Fr [22, 23, 24, 25, 26] σ τ → isRes Γ τ := fun h => hRs.P (h.P (T := fun a => 22 ≤ a ∧ a ≤ 26) (by simp)) (by omega)
    have lp : ∀ (f : Nat) (o : Option Nat) (v : Int32) (F : Int32 → List Int32) (τ : Mem), (∀ u, o = some u → n < u ∧ u < tN T ∧ 48 ≤ u + f) → letE T f o v F = (letE T 48 ((tD T q).2.1 6) ((tD T n).1 13) (fun s => [s])) → (∃ β B, isSub Γ τ 22 (k0 + 1) β ∧ bdOK Γ τ (136 + 5 * n) β B ∧ (∀ s, sub1 β B s = F s) ∧ (∀ v rr f t, v < 100 → β v = some (rr, f, t) → 27 ≤ rr)) → Fr [22, 23, 24, 25, 26] σ τ → Wq G M_ResidualProgram_writeLet (Em G (d + 3) 0 0 Q) 0 0 28 [some (rf G 385), some (rf G (133 + 5 * n)), some (rf G (133 + 5 * q)), some (.int v), some (ov G (o.map nc))] [] [] Γ τ := by
      intro f
      induction f with
      | zero =>
        intro o v F τ h1 h2 hv f0
        have ho : o = none := by
          cases o with
          | none => rfl
          | some u => exact absurd (h1 u rfl) (by omega)
        subst ho
        have T1 := TT f0
        have N1 := T1.nd hn
        have qq1 := T1.nd hq48
        obtain ⟨β, B, S1, B1, e1, -⟩ := hv
        first | refine x_aload d_ResidualProgram_writeLet_28 rfl ?_ | refine x_aloadN d_ResidualProgram_writeLet_28 rfl ?_ | refine x_aloadE d_ResidualProgram_writeLet_28 rfl ?_ | refine x_aloadO d_ResidualProgram_writeLet_28 rfl ?_
        refine x_ifnullN (tgt := 68) d_ResidualProgram_writeLet_30 (by decide) ?_
        first | refine x_aload_n d_ResidualProgram_writeLet_68 rfl rfl ?_ | refine x_aloadN_n d_ResidualProgram_writeLet_68 rfl rfl ?_ | refine x_aloadE_n d_ResidualProgram_writeLet_68 rfl rfl ?_ | refine x_aloadO_n d_ResidualProgram_writeLet_68 rfl rfl ?_
        refine x_getR d_ResidualProgram_writeLet_69 f_ResidualProgram_133 rfl (by exact p0) ((Rs f0).2.2.2) ?_
        first | refine x_aload_n d_ResidualProgram_writeLet_72 rfl rfl ?_ | refine x_aloadN_n d_ResidualProgram_writeLet_72 rfl rfl ?_ | refine x_aloadE_n d_ResidualProgram_writeLet_72 rfl rfl ?_ | refine x_aloadO_n d_ResidualProgram_writeLet_72 rfl rfl ?_
        refine x_getR d_ResidualProgram_writeLet_73 f_ResidualProgram_21 rfl (by exact qq1.1) (qq1.2.2.1.2.1) ?_
        first | refine x_aload_n d_ResidualProgram_writeLet_76 rfl rfl ?_ | refine x_aloadN_n d_ResidualProgram_writeLet_76 rfl rfl ?_ | refine x_aloadE_n d_ResidualProgram_writeLet_76 rfl rfl ?_ | refine x_aloadO_n d_ResidualProgram_writeLet_76 rfl rfl ?_
        refine x_getR d_ResidualProgram_writeLet_77 f_ResidualProgram_21 rfl (by exact N1.1) (N1.2.2.1.2.1) ?_
        refine x_callV2 d_ResidualProgram_writeLet_80 k_Substitution_apply l_ResidualProgram_149 v_Substitution_apply rfl s_Substitution_apply (by exact S1.1.1) RoomE.m (Nat.le_of_ble_eq_true rfl) (c_Substitution_apply S1 qq1.2.2.2.2 N1.2.2.2.2 (by omega) (by omega) B1 (fun τ2 r2 f2 => ?_))
        exact x_return d_ResidualProgram_writeLet_83 rfl (by
          rw [letE_none] at h2
          have e2 : ((nrs (tD T q)).take 100).flatMap (sub1 β B) = (r100 T q).flatMap (letE T 48 ((tD T q).2.1 6) ((tD T n).1 13) (fun s => [s])) := by
            rw [← h2]
            show (r100 T q).flatMap _ = _
            congr 1
            funext s
            exact e1 s
          rw [e2] at r2
          have T2 := T1.rs0.rs hn r2 f2
          refine hQ τ2 T2 ⟨k0 + 1, β, by omega, S1.Fr f2.fr (by simp; omega) (by simp; omega) (by simp; omega) (by simp; omega) (by simp; omega)⟩ ((f0.P (by simp)).tr (f2.P (by simp [inN] <;> omega))))
      | succ f ih =>
        intro o v F τ h1 h2 hv f0
        cases o with
        | none =>
          have T1 := TT f0
          have N1 := T1.nd hn
          have qq1 := T1.nd hq48
          obtain ⟨β, B, S1, B1, e1, -⟩ := hv
          first | refine x_aload d_ResidualProgram_writeLet_28 rfl ?_ | refine x_aloadN d_ResidualProgram_writeLet_28 rfl ?_ | refine x_aloadE d_ResidualProgram_writeLet_28 rfl ?_ | refine x_aloadO d_ResidualProgram_writeLet_28 rfl ?_
          refine x_ifnullN (tgt := 68) d_ResidualProgram_writeLet_30 (by decide) ?_
          first | refine x_aload_n d_ResidualProgram_writeLet_68 rfl rfl ?_ | refine x_aloadN_n d_ResidualProgram_writeLet_68 rfl rfl ?_ | refine x_aloadE_n d_ResidualProgram_writeLet_68 rfl rfl ?_ | refine x_aloadO_n d_ResidualProgram_writeLet_68 rfl rfl ?_
          refine x_getR d_ResidualProgram_writeLet_69 f_ResidualProgram_133 rfl (by exact p0) ((Rs f0).2.2.2) ?_
          first | refine x_aload_n d_ResidualProgram_writeLet_72 rfl rfl ?_ | refine x_aloadN_n d_ResidualProgram_writeLet_72 rfl rfl ?_ | refine x_aloadE_n d_ResidualProgram_writeLet_72 rfl rfl ?_ | refine x_aloadO_n d_ResidualProgram_writeLet_72 rfl rfl ?_
          refine x_getR d_ResidualProgram_writeLet_73 f_ResidualProgram_21 rfl (by exact qq1.1) (qq1.2.2.1.2.1) ?_
          first | refine x_aload_n d_ResidualProgram_writeLet_76 rfl rfl ?_ | refine x_aloadN_n d_ResidualProgram_writeLet_76 rfl rfl ?_ | refine x_aloadE_n d_ResidualProgram_writeLet_76 rfl rfl ?_ | refine x_aloadO_n d_ResidualProgram_writeLet_76 rfl rfl ?_
          refine x_getR d_ResidualProgram_writeLet_77 f_ResidualProgram_21 rfl (by exact N1.1) (N1.2.2.1.2.1) ?_
          refine x_callV2 d_ResidualProgram_writeLet_80 k_Substitution_apply l_ResidualProgram_149 v_Substitution_apply rfl s_Substitution_apply (by exact S1.1.1) RoomE.m (Nat.le_of_ble_eq_true rfl) (c_Substitution_apply S1 qq1.2.2.2.2 N1.2.2.2.2 (by omega) (by omega) B1 (fun τ2 r2 f2 => ?_))
          exact x_return d_ResidualProgram_writeLet_83 rfl (by
            rw [letE_none] at h2
            have e2 : ((nrs (tD T q)).take 100).flatMap (sub1 β B) = (r100 T q).flatMap (letE T 48 ((tD T q).2.1 6) ((tD T n).1 13) (fun s => [s])) := by
              rw [← h2]
              show (r100 T q).flatMap _ = _
              congr 1
              funext s
              exact e1 s
            rw [e2] at r2
            have T2 := T1.rs0.rs hn r2 f2
            refine hQ τ2 T2 ⟨k0 + 1, β, by omega, S1.Fr f2.fr (by simp; omega) (by simp; omega) (by simp; omega) (by simp; omega) (by simp; omega)⟩ ((f0.P (by simp)).tr (f2.P (by simp [inN] <;> omega))))
        | some k30 =>
          have T1 := TT f0
          have N1 := T1.nd hn
          have qq1 := T1.nd hq48
          have hu := h1 _ rfl
          have uu := T1.nd (show k30 < 48 by omega)
          obtain ⟨β, B, S1, B1, e1, a1⟩ := hv
          first | refine x_aload d_ResidualProgram_writeLet_28 rfl ?_ | refine x_aloadN d_ResidualProgram_writeLet_28 rfl ?_ | refine x_aloadE d_ResidualProgram_writeLet_28 rfl ?_ | refine x_aloadO d_ResidualProgram_writeLet_28 rfl ?_
          refine x_ifnull d_ResidualProgram_writeLet_30 ?_
          first | refine x_aload_n d_ResidualProgram_writeLet_33 rfl rfl ?_ | refine x_aloadN_n d_ResidualProgram_writeLet_33 rfl rfl ?_ | refine x_aloadE_n d_ResidualProgram_writeLet_33 rfl rfl ?_ | refine x_aloadO_n d_ResidualProgram_writeLet_33 rfl rfl ?_
          refine x_getR d_ResidualProgram_writeLet_34 f_ResidualProgram_133 rfl (by exact p0) ((Rs f0).2.2.2) ?_
          refine x_iload_n d_ResidualProgram_writeLet_37 rfl rfl ?_
          first | refine x_aload d_ResidualProgram_writeLet_38 rfl ?_ | refine x_aloadN d_ResidualProgram_writeLet_38 rfl ?_ | refine x_aloadE d_ResidualProgram_writeLet_38 rfl ?_ | refine x_aloadO d_ResidualProgram_writeLet_38 rfl ?_
          refine x_getR d_ResidualProgram_writeLet_40 f_ResidualProgram_21 rfl (by exact uu.1) (uu.2.2.1.2.1) ?_
          refine x_iconst (v := 0) d_ResidualProgram_writeLet_43 (by decide) ?_
          first | refine x_aload d_ResidualProgram_writeLet_44 rfl ?_ | refine x_aloadN d_ResidualProgram_writeLet_44 rfl ?_ | refine x_aloadE d_ResidualProgram_writeLet_44 rfl ?_ | refine x_aloadO d_ResidualProgram_writeLet_44 rfl ?_
          refine x_getR d_ResidualProgram_writeLet_46 f_ResidualProgram_21 rfl (by exact uu.1) (uu.2.2.1.2.1) ?_
          refine x_callV0 d_ResidualProgram_writeLet_49 k_Row_length l_ResidualProgram_96 v_Row_length rfl s_Row_length (by exact uu.2.2.2.2.1) RoomE.m (Nat.le_of_ble_eq_true rfl) (c_Row_length uu.2.2.2.2 ?_)
          refine x_callV4 d_ResidualProgram_writeLet_52 k_Substitution_bind l_ResidualProgram_145 v_Substitution_bind rfl s_Substitution_bind (by exact S1.1.1) RoomE.m (Nat.le_of_ble_eq_true rfl) (c_bind2' (f := 0) nI_0.symm rfl S1 uu.2.2.2.2 (fun τ2 s2 f2 => ?_))
          refine x_iinc (v := v + 1) d_ResidualProgram_writeLet_55 rfl (rfl) rfl ?_
          first | refine x_aload d_ResidualProgram_writeLet_58 rfl ?_ | refine x_aloadN d_ResidualProgram_writeLet_58 rfl ?_ | refine x_aloadE d_ResidualProgram_writeLet_58 rfl ?_ | refine x_aloadO d_ResidualProgram_writeLet_58 rfl ?_
          refine x_getQ d_ResidualProgram_writeLet_60 f_ResidualProgram_74 rfl (by exact uu.1) ((congrFun (f2 (nc k30) (by simp [nc]; omega)).2.1 6).trans (uu.2.2.1.2.2 6 rfl).1) ?_
          first | refine x_astore d_ResidualProgram_writeLet_63 rfl ?_ | refine x_astoreN d_ResidualProgram_writeLet_63 rfl ?_ | refine x_astoreE d_ResidualProgram_writeLet_63 rfl ?_ | refine x_astoreO d_ResidualProgram_writeLet_63 rfl ?_
          refine x_goto (tgt := 28) d_ResidualProgram_writeLet_65 (by decide) ?_
          exact Wq.fg (ih _ _ _ τ2 (fun u hw => by have := hB k30 hu.2.1 u (Or.inr hw); omega) (by rw [letE] at h2; exact h2) (okE2 B1 e1 s2 uu.2.2.2.2 (by omega) f2 a1 (by omega)) (f0.tr (f2.mono (by simp)))) ⟨rfl, rfl, rfl, rfl, rfl, trivial⟩
    first | refine x_astore_n d_ResidualProgram_writeLet_4 rfl rfl ?_ | refine x_astoreN_n d_ResidualProgram_writeLet_4 rfl rfl ?_ | refine x_astoreE_n d_ResidualProgram_writeLet_4 rfl rfl ?_ | refine x_astoreO_n d_ResidualProgram_writeLet_4 rfl rfl ?_
    first | refine x_aload_n d_ResidualProgram_writeLet_5 rfl rfl ?_ | refine x_aloadN_n d_ResidualProgram_writeLet_5 rfl rfl ?_ | refine x_aloadE_n d_ResidualProgram_writeLet_5 rfl rfl ?_ | refine x_aloadO_n d_ResidualProgram_writeLet_5 rfl rfl ?_
    refine x_ifnonnull (tgt := 10) d_ResidualProgram_writeLet_6 (by decide) ?_
    first | refine x_aload_n d_ResidualProgram_writeLet_10 rfl rfl ?_ | refine x_aloadN_n d_ResidualProgram_writeLet_10 rfl rfl ?_ | refine x_aloadE_n d_ResidualProgram_writeLet_10 rfl rfl ?_ | refine x_aloadO_n d_ResidualProgram_writeLet_10 rfl rfl ?_
    refine x_getR d_ResidualProgram_writeLet_11 f_ResidualProgram_133 rfl (by exact p0) (p3) ?_
    refine x_callV0 d_ResidualProgram_writeLet_14 k_Substitution_begin l_ResidualProgram_137 v_Substitution_begin rfl s_Substitution_begin (by exact hSub.1.1) RoomE.m (Nat.le_of_ble_eq_true rfl) (c_Substitution_begin hSub (by omega) (fun τ1 S1 f1 => ?_))
    first | refine x_aload_n d_ResidualProgram_writeLet_17 rfl rfl ?_ | refine x_aloadN_n d_ResidualProgram_writeLet_17 rfl rfl ?_ | refine x_aloadE_n d_ResidualProgram_writeLet_17 rfl rfl ?_ | refine x_aloadO_n d_ResidualProgram_writeLet_17 rfl rfl ?_
    refine x_getI d_ResidualProgram_writeLet_18 f_ResidualProgram_142 rfl (by exact m0) ?_
    rw [show τ1.1 (133 + 5 * n) 13 = (tD T n).1 13 by rw [f1.2 _ (by simp; omega)]; exact ii 13 rfl]
    refine x_istore_n d_ResidualProgram_writeLet_21 rfl rfl ?_
    first | refine x_aload_n d_ResidualProgram_writeLet_22 rfl rfl ?_ | refine x_aloadN_n d_ResidualProgram_writeLet_22 rfl rfl ?_ | refine x_aloadE_n d_ResidualProgram_writeLet_22 rfl rfl ?_ | refine x_aloadO_n d_ResidualProgram_writeLet_22 rfl rfl ?_
    refine x_getQ d_ResidualProgram_writeLet_23 f_ResidualProgram_74 rfl (by exact uq.1) ((congrFun (congrFun (congrArg Prod.fst f1.1) _) _).trans (uq.2.2.1.2.2 6 rfl).1) ?_
    first | refine x_astore d_ResidualProgram_writeLet_26 rfl ?_ | refine x_astoreN d_ResidualProgram_writeLet_26 rfl ?_ | refine x_astoreE d_ResidualProgram_writeLet_26 rfl ?_ | refine x_astoreO d_ResidualProgram_writeLet_26 rfl ?_
    exact Wq.fg (lp 48 _ _ _ τ1 (fun u hu => by have := hB q hq.2 u (Or.inr hu); omega) rfl ⟨_, fun _ => [], S1, fun v rr f t _ h => (by cases h), fun s => by unfold sub1; split <;> rfl, fun v rr f t _ h => (by cases h)⟩ (f1.fr.mono (by simp))) ⟨rfl, rfl, rfl, rfl, rfl, trivial⟩
