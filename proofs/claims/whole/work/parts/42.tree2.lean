/-! Node.isBelow, Tree.removeBelow -/
def AW (T : TS) : Prop := ∀ n, n < tN T → ∀ m, (tD T n).2.1 3 = some m → m < n
def tBel (T : TS) (top : Nat) : Nat → Option Nat → Bool
  | 0, _ => false
  | _ + 1, none => false
  | f + 1, some u => if u = top then true else tBel T top f ((tD T u).2.1 3)
theorem tBel_none {T : TS} {top : Nat} : ∀ f, tBel T top f none = false
  | 0 => rfl
  | _ + 1 => rfl
def isBel (T : TS) (n top : Nat) : Bool := tBel T top n ((tD T n).2.1 3)
set_option maxRecDepth 10000 in
set_option maxHeartbeats 1000000 in
theorem c_Node_isBelow {G : Ctx} {d : Nat} {Γ : List Sh} {σ : Mem} {Q : Option Value → List Sh → Mem → Prop} {T : TS} {n top : Nat}  (hT : isTree Γ σ T) (hA : AW T) (hn2 : n < tN T) (hQ : Q (some (.int (bI (isBel T n top)))) Γ σ) : Ct G M_Node_isBelow d 0 0 [rf G (133 + 5 * n), rf G (133 + 5 * top)] Γ σ Q := by
  obtain ⟨-, -, -, ⟨-, t4b⟩, -⟩ := id hT
  have hn : n < 48 := by omega
  obtain ⟨n0, ⟨i0, ii⟩, ⟨q1, q2, qq⟩, nt, nr⟩ := id (hT.nd hn)
  have lp : ∀ (f : Nat) (o : Option Nat), (∀ u, o = some u → u < f ∧ u < tN T) → tBel T top f o = isBel T n top → Wq G M_Node_isBelow (Em G d 0 0 Q) 0 0 5 [some (rf G (133 + 5 * n)), some (rf G (133 + 5 * top)), some (ov G (o.map nc))] [] [] Γ σ := by
    intro f
    induction f with
    | zero =>
      intro o h1 h2
      have ho : o = none := by
        cases o with
        | none => rfl
        | some u => exact absurd (h1 u rfl).1 (Nat.not_lt_zero _)
      subst ho
      first | refine x_aload_n d_Node_isBelow_5 rfl rfl ?_ | refine x_aloadN_n d_Node_isBelow_5 rfl rfl ?_ | refine x_aloadE_n d_Node_isBelow_5 rfl rfl ?_ | refine x_aloadO_n d_Node_isBelow_5 rfl rfl ?_
      refine x_ifnullN (tgt := 24) d_Node_isBelow_6 (by decide) ?_
      refine x_iconst (v := 0) d_Node_isBelow_24 (by decide) ?_
      exact x_ireturn d_Node_isBelow_25 rfl (by decide) (by rw [tBel_none] at h2; rw [← h2] at hQ; exact hQ)
    | succ f ih =>
      intro o h1 h2
      first | refine x_aload_n d_Node_isBelow_5 rfl rfl ?_ | refine x_aloadN_n d_Node_isBelow_5 rfl rfl ?_ | refine x_aloadE_n d_Node_isBelow_5 rfl rfl ?_ | refine x_aloadO_n d_Node_isBelow_5 rfl rfl ?_
      rcases hO6 : o with _ | k6
      · subst hO6
        refine x_ifnullN (tgt := 24) d_Node_isBelow_6 (by decide) ?_
        refine x_iconst (v := 0) d_Node_isBelow_24 (by decide) ?_
        exact x_ireturn d_Node_isBelow_25 rfl (by decide) (by rw [tBel_none] at h2; rw [← h2] at hQ; exact hQ)
      · subst hO6
        have hu := h1 _ rfl
        have uu := hT.nd (show k6 < 48 by omega)
        refine x_ifnull d_Node_isBelow_6 ?_
        first | refine x_aload_n d_Node_isBelow_9 rfl rfl ?_ | refine x_aloadN_n d_Node_isBelow_9 rfl rfl ?_ | refine x_aloadE_n d_Node_isBelow_9 rfl rfl ?_ | refine x_aloadO_n d_Node_isBelow_9 rfl rfl ?_
        first | refine x_aload_n d_Node_isBelow_10 rfl rfl ?_ | refine x_aloadN_n d_Node_isBelow_10 rfl rfl ?_ | refine x_aloadE_n d_Node_isBelow_10 rfl rfl ?_ | refine x_aloadO_n d_Node_isBelow_10 rfl rfl ?_
        refine x_acmp_ne (tgt := 16) d_Node_isBelow_11 (by decide) (fun c11 => ?_) (fun c11 => ?_)
        · first | refine x_aload_n d_Node_isBelow_16 rfl rfl ?_ | refine x_aloadN_n d_Node_isBelow_16 rfl rfl ?_ | refine x_aloadE_n d_Node_isBelow_16 rfl rfl ?_ | refine x_aloadO_n d_Node_isBelow_16 rfl rfl ?_
          refine x_getQ d_Node_isBelow_17 f_Node_34 rfl (by exact uu.1) ((uu.2.2.1.2.2 3 rfl).1) ?_
          first | refine x_astore_n d_Node_isBelow_20 rfl rfl ?_ | refine x_astoreN_n d_Node_isBelow_20 rfl rfl ?_ | refine x_astoreE_n d_Node_isBelow_20 rfl rfl ?_ | refine x_astoreO_n d_Node_isBelow_20 rfl rfl ?_
          refine x_goto (tgt := 5) d_Node_isBelow_21 (by decide) ?_
          exact ih _ (fun u hv => by have := hA k6 hu.2 u hv; omega) (by rw [tBel, if_neg (show ¬ k6 = top by unfold nc at c11; omega)] at h2; exact h2)
        · refine x_iconst (v := 1) d_Node_isBelow_14 (by decide) ?_
          exact x_ireturn d_Node_isBelow_15 rfl (by decide) (by rw [tBel, if_pos (show k6 = top by unfold nc at c11; omega)] at h2; rw [← h2] at hQ; exact hQ)
  refine Ct.of (lv := [some (rf G (133 + 5 * n)), some (rf G (133 + 5 * top)), none]) (ll := []) rfl rfl (EN.cat (n := 1) ⟨rfl, rfl, trivial⟩ (Nat.le_of_ble_eq_true rfl)) ?_
  first | refine x_aload_n d_Node_isBelow_0 rfl rfl ?_ | refine x_aloadN_n d_Node_isBelow_0 rfl rfl ?_ | refine x_aloadE_n d_Node_isBelow_0 rfl rfl ?_ | refine x_aloadO_n d_Node_isBelow_0 rfl rfl ?_
  refine x_getQ d_Node_isBelow_1 f_Node_34 rfl (by assumption) ((qq 3 rfl).1) ?_
  first | refine x_astore_n d_Node_isBelow_4 rfl rfl ?_ | refine x_astoreN_n d_Node_isBelow_4 rfl rfl ?_ | refine x_astoreE_n d_Node_isBelow_4 rfl rfl ?_ | refine x_astoreO_n d_Node_isBelow_4 rfl rfl ?_
  exact lp n _ (fun u hu => by have := hA n hn2 u hu; omega) rfl
def tRm1 (T : TS) (top n : Nat) : TS := if isBel T n top = true then tUp T n (nBecome (tD T n) 0 (-1)) else T
def tRmL (top : Nat) : Nat → Nat → TS → TS
  | 0, _, T => T
  | k + 1, n, T => tRmL top k (n + 1) (tRm1 T top n)
def tRm (T : TS) (top : Nat) : TS := tUp (tRmL top (tN T - (top + 1)) (top + 1) T) top (nDrop (tD (tRmL top (tN T - (top + 1)) (top + 1) T) top))
theorem nBecome_lk {x : ND} {k v : Int32} {j : Nat} (h : j ≠ 9) : (nBecome x k v).2.1 j = x.2.1 j := by simp [nBecome, xi, xr, upN, h]
theorem tUp_lk {T : TS} {n k j : Nat} {x : ND} (h : x.2.1 j = (tD T n).2.1 j) : (tD (tUp T n x) k).2.1 j = (tD T k).2.1 j := by
  by_cases z : k = n
  · subst z; rw [tD_up]; exact h
  · rw [tD_ne z]
theorem tRm1_N {T : TS} {top n : Nat} : tN (tRm1 T top n) = tN T := by
  unfold tRm1
  split <;> rfl
theorem tRm1_lk {T : TS} {top n k j : Nat} (h : j ≠ 9) : (tD (tRm1 T top n) k).2.1 j = (tD T k).2.1 j := by
  unfold tRm1
  split
  · exact tUp_lk (nBecome_lk h)
  · rfl
theorem AW.rm1 {T : TS} {top n : Nat} (h : AW T) : AW (tRm1 T top n) := fun k hk m hm => h k (by rw [← tRm1_N (T := T) (top := top) (n := n)]; exact hk) m (by rw [← tRm1_lk (T := T) (top := top) (n := n) (by decide)]; exact hm)
set_option maxRecDepth 10000 in
set_option maxHeartbeats 1000000 in
theorem c_Tree_removeBelow {G : Ctx} {d : Nat} {Γ : List Sh} {σ : Mem} {Q : Option Value → List Sh → Mem → Prop} {T : TS} {top : Nat}  (hT : isTree Γ σ T) (hA : AW T) (ht2 : top < tN T) (hQ : ∀ σ', isTree Γ σ' (tRm T top) → FrP inT σ σ' → Q none Γ σ') : Ct G M_Tree_removeBelow (d + 1) 0 0 [rf G 131, rf G (133 + 5 * top)] Γ σ Q := by
  obtain ⟨t1, t2, t3, ⟨t4, t4b⟩, -⟩ := id hT
  have htop : top < 48 := by omega
  obtain ⟨n0, ⟨i0, ii⟩, -⟩ := id (hT.nd htop)
  have lp : ∀ (k : Nat) (i : Nat) (T0 : TS) (τ : Mem), i + k = tN T → tN T0 = tN T → tRmL top k i T0 = tRmL top (tN T - (top + 1)) (top + 1) T → isTree Γ τ T0 → AW T0 → FrP inT σ τ → Wq G M_Tree_removeBelow (Em G (d + 1) 0 0 Q) 0 0 7 [some (rf G 131), some (rf G (133 + 5 * top)), some (.int (nI i)), none] [] [] Γ τ := by
    intro k
    induction k with
    | zero =>
      intro i T0 τ h1 h2 h3 T1 A1 f0
      obtain ⟨u1, u2, u3, ⟨u4, u4b⟩, -⟩ := id T1
      refine x_iload_n d_Tree_removeBelow_7 rfl rfl ?_
      first | refine x_aload_n d_Tree_removeBelow_8 rfl rfl ?_ | refine x_aloadN_n d_Tree_removeBelow_8 rfl rfl ?_ | refine x_aloadE_n d_Tree_removeBelow_8 rfl rfl ?_ | refine x_aloadO_n d_Tree_removeBelow_8 rfl rfl ?_
      refine x_getI d_Tree_removeBelow_9 f_Tree_17 rfl (by assumption) ?_
      refine x_icmp_ge (tgt := 45) d_Tree_removeBelow_12 (by decide) (fun c12 => ?_) (fun c12 => ?_)
      · first | refine x_aload_n d_Tree_removeBelow_45 rfl rfl ?_ | refine x_aloadN_n d_Tree_removeBelow_45 rfl rfl ?_ | refine x_aloadE_n d_Tree_removeBelow_45 rfl rfl ?_ | refine x_aloadO_n d_Tree_removeBelow_45 rfl rfl ?_
        refine x_callV0 d_Tree_removeBelow_46 k_Node_dropBelow l_Tree_60 v_Node_dropBelow rfl s_Node_dropBelow (by exact (T1.nd htop).1) RoomE.m (Nat.le_of_ble_eq_true rfl) (c_Node_dropBelow (T1.nd htop) (fun τ2 h4 f4 => ?_))
        exact x_return d_Tree_removeBelow_49 rfl (by
          have f5 : FrP (inN top) τ τ2 := f4.N (by simp [inN] <;> omega)
          have T2 := T1.up htop f5 h4
          refine hQ _ ?_ (f0.tr (f5.T htop))
          have e0 : tRmL top 0 i T0 = T0 := rfl
          rw [e0] at h3
          rw [tRm, ← h3]
          exact T2)
      · exact absurd (by rw [u4]; exact nI_le (by omega) (by omega)) c12
    | succ k ih =>
      intro i T0 τ h1 h2 h3 T1 A1 f0
      obtain ⟨u1, u2, u3, ⟨u4, u4b⟩, -⟩ := id T1
      have hi : i < tN T0 := by omega
      refine x_iload_n d_Tree_removeBelow_7 rfl rfl ?_
      first | refine x_aload_n d_Tree_removeBelow_8 rfl rfl ?_ | refine x_aloadN_n d_Tree_removeBelow_8 rfl rfl ?_ | refine x_aloadE_n d_Tree_removeBelow_8 rfl rfl ?_ | refine x_aloadO_n d_Tree_removeBelow_8 rfl rfl ?_
      refine x_getI d_Tree_removeBelow_9 f_Tree_17 rfl (by assumption) ?_
      refine x_icmp_ge (tgt := 45) d_Tree_removeBelow_12 (by decide) (fun c12 => ?_) (fun c12 => ?_)
      · rw [u4, nI_leI (by omega) (by omega)] at c12; omega
      · first | refine x_aload_n d_Tree_removeBelow_15 rfl rfl ?_ | refine x_aloadN_n d_Tree_removeBelow_15 rfl rfl ?_ | refine x_aloadE_n d_Tree_removeBelow_15 rfl rfl ?_ | refine x_aloadO_n d_Tree_removeBelow_15 rfl rfl ?_
        refine x_iload_n d_Tree_removeBelow_16 rfl rfl ?_
        refine x_callV1 d_Tree_removeBelow_17 k_Tree_get l_Tree_48 v_Tree_get rfl s_Tree_get (by assumption) RoomE.m (Nat.le_of_ble_eq_true rfl) (c_Tree_get T1 ?_)
        rw [tGet_nI (by omega), if_pos hi]
        first | refine x_astore_n d_Tree_removeBelow_20 rfl rfl ?_ | refine x_astoreN_n d_Tree_removeBelow_20 rfl rfl ?_ | refine x_astoreE_n d_Tree_removeBelow_20 rfl rfl ?_ | refine x_astoreO_n d_Tree_removeBelow_20 rfl rfl ?_
        first | refine x_aload_n d_Tree_removeBelow_21 rfl rfl ?_ | refine x_aloadN_n d_Tree_removeBelow_21 rfl rfl ?_ | refine x_aloadE_n d_Tree_removeBelow_21 rfl rfl ?_ | refine x_aloadO_n d_Tree_removeBelow_21 rfl rfl ?_
        refine x_ifnull d_Tree_removeBelow_22 ?_
        first | refine x_aload_n d_Tree_removeBelow_25 rfl rfl ?_ | refine x_aloadN_n d_Tree_removeBelow_25 rfl rfl ?_ | refine x_aloadE_n d_Tree_removeBelow_25 rfl rfl ?_ | refine x_aloadO_n d_Tree_removeBelow_25 rfl rfl ?_
        first | refine x_aload_n d_Tree_removeBelow_26 rfl rfl ?_ | refine x_aloadN_n d_Tree_removeBelow_26 rfl rfl ?_ | refine x_aloadE_n d_Tree_removeBelow_26 rfl rfl ?_ | refine x_aloadO_n d_Tree_removeBelow_26 rfl rfl ?_
        refine x_callV1 d_Tree_removeBelow_27 k_Node_isBelow l_Tree_52 v_Node_isBelow rfl s_Node_isBelow (by exact (T1.nd (show i < 48 by omega)).1) RoomE.m (Nat.le_of_ble_eq_true rfl) (c_Node_isBelow T1 A1 hi ?_)
        refine x_if_eq (tgt := 39) d_Tree_removeBelow_30 (by decide) (fun c30 => ?_) (fun c30 => ?_)
        · refine x_iinc (v := nI (i + 1)) d_Tree_removeBelow_39 rfl (nI_1 i) rfl ?_
          refine x_goto (tgt := 7) d_Tree_removeBelow_42 (by decide) ?_
          exact Wq.fg (ih (i + 1) (tRm1 T0 top i) τ (by omega) (by rw [tRm1_N]; exact h2) h3 (by rw [tRm1, bI_0 c30, if_neg (by decide)]; exact T1) A1.rm1 f0) ⟨rfl, rfl, rfl, trivial⟩
        · first | refine x_aload_n d_Tree_removeBelow_33 rfl rfl ?_ | refine x_aloadN_n d_Tree_removeBelow_33 rfl rfl ?_ | refine x_aloadE_n d_Tree_removeBelow_33 rfl rfl ?_ | refine x_aloadO_n d_Tree_removeBelow_33 rfl rfl ?_
          refine x_iconst (v := 0) d_Tree_removeBelow_34 (by decide) ?_
          refine x_iconst (v := -1) d_Tree_removeBelow_35 (by decide) ?_
          refine x_callV2 d_Tree_removeBelow_36 k_Node_become l_Tree_56 v_Node_become rfl s_Node_become (by exact (T1.nd (show i < 48 by omega)).1) RoomE.m (Nat.le_of_ble_eq_true rfl) (c_Node_become (T1.nd (by omega)) (fun τ2 h4 f4 => ?_))
          have f5 : FrP (inN i) τ τ2 := f4.N (by simp [inN] <;> omega)
          have T2 := T1.up (by omega) f5 h4
          refine x_iinc (v := nI (i + 1)) d_Tree_removeBelow_39 rfl (nI_1 i) rfl ?_
          refine x_goto (tgt := 7) d_Tree_removeBelow_42 (by decide) ?_
          exact Wq.fg (ih (i + 1) (tRm1 T0 top i) τ2 (by omega) (by rw [tRm1_N]; exact h2) h3 (by rw [tRm1, if_pos (bI_n0 c30)]; exact T2) A1.rm1 (f0.tr (f5.T (by omega)))) ⟨rfl, rfl, rfl, trivial⟩
  refine Ct.of (lv := [some (rf G 131), some (rf G (133 + 5 * top)), none, none]) (ll := []) rfl rfl (EN.cat (n := 2) ⟨rfl, rfl, trivial⟩ (Nat.le_of_ble_eq_true rfl)) ?_
  first | refine x_aload_n d_Tree_removeBelow_0 rfl rfl ?_ | refine x_aloadN_n d_Tree_removeBelow_0 rfl rfl ?_ | refine x_aloadE_n d_Tree_removeBelow_0 rfl rfl ?_ | refine x_aloadO_n d_Tree_removeBelow_0 rfl rfl ?_
  refine x_getI d_Tree_removeBelow_1 f_Tree_45 rfl (by exact n0) ?_
  refine x_iconst (v := 1) d_Tree_removeBelow_4 (by decide) ?_
  refine x_iadd d_Tree_removeBelow_5 ?_
  rw [i0, nI_1]
  refine x_istore_n d_Tree_removeBelow_6 rfl rfl ?_
  exact Wq.fg (lp (tN T - (top + 1)) (top + 1) T σ (by omega) rfl rfl hT hA FrP.rf) ⟨rfl, rfl, rfl, trivial⟩
