/-! Driver.split, settle -/
theorem nxc_lt {cs : Int32 → Bool} : ∀ {zs : List Int32} {a : Nat}, nxc cs zs = some a → a < zs.length ∧ isC (zs.getD a (-1)) = true
  | [], a, h => by cases h
  | x :: l, a, h => by
    unfold nxc at h
    split at h
    · next z => cases h; exact ⟨Nat.succ_pos _, (Bool.and_eq_true_iff.mp z).1⟩
    · rcases hn : nxc cs l with _ | b
      · rw [hn] at h; cases h
      · rw [hn] at h
        cases h
        have := nxc_lt hn
        exact ⟨Nat.succ_lt_succ this.1, this.2⟩
theorem nxc_some {cs : Int32 → Bool} : ∀ {zs : List Int32}, isC (zs.getD 0 (-1)) = true → ∃ a, nxc cs zs = some a
  | [], h => absurd h (by decide)
  | x :: l, h => by
    have hx : isC x = true := h
    unfold nxc
    split
    · exact ⟨0, rfl⟩
    · next z =>
      rw [hx, Bool.true_and, Bool.not_eq_true', Bool.not_eq_false, Bool.and_eq_true] at z
      obtain ⟨b, hb⟩ := nxc_some (cs := cs) (zs := l) z.2
      exact ⟨b + 1, by rw [hb]; rfl⟩
theorem tSet_o {R : TS × Option Nat} {c : Nat} {w : Int32} : tN (tSet R c w) = tN R.1 ∧ ∀ k, ntm (tD (tSet R c w) k) = ntm (tD R.1 k) := by
  unfold tSet
  split
  · exact ⟨rfl, fun _ => rfl⟩
  · next m h =>
    refine ⟨rfl, fun k => ?_⟩
    by_cases z : k = m
    · subst z; rw [tD_up]; rfl
    · rw [tD_ne z]
theorem tCls_o {pt : Nat → Int32} {cs : Nat → Bool} {bd : Nat → List Int32} {T : TS} {n a : Nat} {v : Int32} {c k : Nat} (hk : k < tN T) : ntm (tD (tCls pt cs bd T n a v c) k) = ntm (tD T k) ∧ tN T ≤ tN (tCls pt cs bd T n a v c) := by
  unfold tCls
  have hk2 : k < tN (aPat T c).1 := by rw [aPat, tNK_o.2.1]; exact hk
  have ho := tAdd_o (T := (aPat T c).1) (ab := some n) (l := (uL pt cs bd (aRep T n c v) a).take 40) (tl := decide (40 < (uL pt cs bd (aRep T n c v) a).length)) hk2
  refine ⟨(tSet_o.2 k).trans ((congrArg Prod.fst ho.2.1).trans ?_), ?_⟩
  · show ntm (tD (aPat T c).1 k) = _
    rw [aPat, tNK_o.1]
  · rw [tSet_o.1]
    have h5 : tN (aPat T c).1 = tN T := by rw [aPat, tNK_o.2.1]
    rw [← h5]
    exact ho.2.2.2
def tSpL (pt : Nat → Int32) (cs : Nat → Bool) (bd : Nat → List Int32) (n a : Nat) (v : Int32) : Nat → Nat → TS → TS
  | 0, _, T => T
  | f + 1, c, T => if tG T = true then T else tSpL pt cs bd n a v f (c + 1) (if (sB bd ((t40 T n).getD a (-1)) (nI c)).isSome = true then tCls pt cs bd T n a v c else T)
def tSplit (pt : Nat → Int32) (cs : Nat → Bool) (bd : Nat → List Int32) (T : TS) (n a : Nat) : TS := tSpL pt cs bd n a ((t40 T n).getD (a + 1) (-1)) 6 0 (tUp T n (nBecome (tD T n) 4 ((t40 T n).getD (a + 1) (-1))))
def inC (b : Nat) : Prop := (22 ≤ b ∧ b ≤ 26) ∨ inT b ∨ (374 ≤ b ∧ b ≤ 379)
theorem FrP.c2d {σ σ' : Mem} (h : FrP inC σ σ') : FrP inDr σ σ' := h.mono (fun a z => by unfold inC inT at z; unfold inDr; omega)
theorem FrP.t2c {σ σ' : Mem} (h : FrP inT σ σ') : FrP inC σ σ' := h.mono (fun a z => Or.inr (Or.inl z))
set_option maxRecDepth 10000 in
set_option maxHeartbeats 1000000 in
theorem c_Driver_split {G : Ctx} {d : Nat} {Γ : List Sh} {σ : Mem} {Q : Option Value → List Sh → Mem → Prop} {T : TS} {n a K : Nat} {pt : Nat → Int32} {cs : Nat → Bool} {bd : Nat → List Int32}  (hD : isDrv Γ σ) (hT : isTree Γ σ T) (hG : isSg Γ σ 27 pt cs) (hSrc : isSrc Γ σ 33 27 22 bd) (hOK : SgOK pt cs) (hS : isSb Γ σ K) (hK : K + 12 < 1000000000) (hnt : n < tN T) (ha : a < (t40 T n).length) (hv : isV ((t40 T n).getD (a + 1) (-1)) = true) (hQ : ∀ σ', isTree Γ σ' (tSplit pt cs bd T n a) → isDrv Γ σ' → isSb Γ σ' (K + 12) → FrP inC σ σ' → Q none Γ σ') : Ct G M_Driver_split (d + 5) 0 0 [rf G 373, rf G (133 + 5 * n), .int (nI a)] Γ σ Q := by
  obtain ⟨v0, ⟨v1, v2, v3, v4, v5, v6, v7, v8⟩, -⟩ := id hD
  obtain ⟨t1, -, -, ⟨-, t4b⟩, -⟩ := id hT
  have hn : n < 48 := by omega
  have hN := hT.nd hn
  obtain ⟨n0, -, ⟨q1, -⟩, nt, -⟩ := id hN
  have hal : (t40 T n).length ≤ 40 := by rw [t40, List.length_take]; omega
  have lp : ∀ (k : Nat) (c : Nat) (T0 : TS) (τ : Mem), c + k = 6 → tSpL pt cs bd n a ((t40 T n).getD (a + 1) (-1)) k c T0 = (tSplit pt cs bd T n a) → isTree Γ τ T0 → isDrv Γ τ → isSb Γ τ (K + 2 * c) → FrP inC σ τ → n < tN T0 → ntm (tD T0 n) = ntm (tD T n) → Wq G M_Driver_split (Em G (d + 5) 0 0 Q) 0 0 20 [some (rf G 373), some (rf G (133 + 5 * n)), some (.int (nI a)), some (.int ((t40 T n).getD (a + 1) (-1))), some (.int (nI c))] [] [] Γ τ := by
    intro k
    induction k with
    | zero =>
      intro c T0 τ h1 h2 T1 D1 S1 f0 hnc hm
      refine x_iload d_Driver_split_20 rfl ?_
      refine x_bipush (v := 6) d_Driver_split_22 (by decide) ?_
      refine x_icmp_ge (tgt := 72) d_Driver_split_24 (by decide) (fun c24 => ?_) (fun c24 => ?_)
      · exact x_return d_Driver_split_72 rfl (hQ τ (by rw [← h2]; exact T1) D1 (S1.mono (by omega)) f0)
      · exact absurd (nI_le (a := 6) (by omega) (by omega)) c24
    | succ k ih =>
      intro c T0 τ h1 h2 T1 D1 S1 f0 hnc hm
      have G1 := sg_Dr hG f0.c2d
      have Sr1 := src_Dr hSrc f0.c2d
      refine x_iload d_Driver_split_20 rfl ?_
      refine x_bipush (v := 6) d_Driver_split_22 (by decide) ?_
      refine x_icmp_ge (tgt := 72) d_Driver_split_24 (by decide) (fun c24 => ?_) (fun c24 => ?_)
      · have := (nI_leI (a := 6) (by decide) (by omega)).mp c24; omega
      · first | refine x_aload_n d_Driver_split_27 rfl rfl ?_ | refine x_aloadN_n d_Driver_split_27 rfl rfl ?_ | refine x_aloadE_n d_Driver_split_27 rfl rfl ?_ | refine x_aloadO_n d_Driver_split_27 rfl rfl ?_
        refine x_getR d_Driver_split_28 f_Driver_34 rfl (by exact D1.1) (D1.2.1.2.2.1) ?_
        refine x_callV0 d_Driver_split_31 k_Tree_isTooGreat l_Driver_74 v_Tree_isTooGreat rfl s_Tree_isTooGreat (by exact T1.1) RoomE.m (Nat.le_of_ble_eq_true rfl) (c_Tree_isTooGreat T1 ?_)
        refine x_if_ne (tgt := 72) d_Driver_split_34 (by decide) (fun c34 => ?_) (fun c34 => ?_)
        · exact x_return d_Driver_split_72 rfl (hQ τ (by rw [← h2, tSpL, if_pos (bI_n0 c34)]; exact T1) D1 (S1.mono (by omega)) f0)
        · first | refine x_aload_n d_Driver_split_37 rfl rfl ?_ | refine x_aloadN_n d_Driver_split_37 rfl rfl ?_ | refine x_aloadE_n d_Driver_split_37 rfl rfl ?_ | refine x_aloadO_n d_Driver_split_37 rfl rfl ?_
          refine x_getR d_Driver_split_38 f_Driver_30 rfl (by exact D1.1) (D1.2.1.2.1) ?_
          first | refine x_aload_n d_Driver_split_41 rfl rfl ?_ | refine x_aloadN_n d_Driver_split_41 rfl rfl ?_ | refine x_aloadE_n d_Driver_split_41 rfl rfl ?_ | refine x_aloadO_n d_Driver_split_41 rfl rfl ?_
          refine x_getR d_Driver_split_42 f_Driver_78 rfl (by exact (T1.nd hn).1) ((T1.nd hn).2.2.1.1) ?_
          refine x_iload_n d_Driver_split_45 rfl rfl ?_
          refine x_callV1 d_Driver_split_46 k_Row_at l_Driver_81 v_Row_at rfl s_Row_at (by exact (T1.nd hn).2.2.2.1.1) RoomE.m (Nat.le_of_ble_eq_true rfl) (c_Row_at (T1.nd hn).2.2.2.1 ?_)
          rw [atI_nI (by omega)]
          refine x_iload d_Driver_split_49 rfl ?_
          refine x_callU2 d_Driver_split_51 k_SourceProgram_bodyOf l_Driver_162 sm_Program_bodyOf ⟨by decide, by decide⟩ (by decide +kernel) (Or.inl dc_Program_bodyOf) v_SourceProgram_bodyOf rfl so_SourceProgram_bodyOf (by exact Sr1.1) RoomE.m (Nat.le_of_ble_eq_true rfl) (c_SourceProgram_bodyOf Sr1 ?_)
          show Wq _ _ _ _ _ _ _ _ (ov G ((sB bd ((t40 T0 n).getD a (-1)) (nI c)).map (fun i => 33 + 2 + 2 * i)) :: _) _ _
          rcases hb : sB bd ((t40 T0 n).getD a (-1)) (nI c) with _ | i9
          · show Wq _ _ _ _ _ _ _ _ (.null :: _) _ _
            refine x_ifnullN (tgt := 66) d_Driver_split_54 (by decide) ?_
            refine x_iinc (v := nI (c + 1)) d_Driver_split_66 rfl (nI_1 c) rfl ?_
            refine x_goto (tgt := 20) d_Driver_split_69 (by decide) ?_
            exact Wq.fg (ih (c + 1) _ τ (by omega) (by rw [tSpL, if_neg (by rw [bI_0 c34]; decide), hb, if_neg (by decide)] at h2; exact h2) T1 D1 (S1.mono (by omega)) f0 hnc hm) ⟨rfl, rfl, rfl, rfl, rfl, trivial⟩
          · show Wq _ _ _ _ _ _ _ _ (rf G (33 + 2 + 2 * i9) :: _) _ _
            refine x_ifnull d_Driver_split_54 ?_
            first | refine x_aload_n d_Driver_split_57 rfl rfl ?_ | refine x_aloadN_n d_Driver_split_57 rfl rfl ?_ | refine x_aloadE_n d_Driver_split_57 rfl rfl ?_ | refine x_aloadO_n d_Driver_split_57 rfl rfl ?_
            first | refine x_aload_n d_Driver_split_58 rfl rfl ?_ | refine x_aloadN_n d_Driver_split_58 rfl rfl ?_ | refine x_aloadE_n d_Driver_split_58 rfl rfl ?_ | refine x_aloadO_n d_Driver_split_58 rfl rfl ?_
            refine x_iload_n d_Driver_split_59 rfl rfl ?_
            refine x_iload_n d_Driver_split_60 rfl rfl ?_
            refine x_iload d_Driver_split_61 rfl ?_
            refine x_callV4 d_Driver_split_63 k_Driver_addClause l_Driver_166 v_Driver_addClause rfl s_Driver_addClause (by exact D1.1) RoomE.m (Nat.le_of_ble_eq_true rfl) (c_Driver_addClause D1 T1 G1 Sr1 hOK S1 (by omega) hnc (by rw [t40, hm]; exact ha) hv (fun τ2 T2 D2 S2 f2 => ?_))
            refine x_iinc (v := nI (c + 1)) d_Driver_split_66 rfl (nI_1 c) rfl ?_
            refine x_goto (tgt := 20) d_Driver_split_69 (by decide) ?_
            exact Wq.fg (ih (c + 1) _ τ2 (by omega) (by rw [tSpL, if_neg (by rw [bI_0 c34]; decide), hb, if_pos (by rfl)] at h2; exact h2) T2 D2 (S2.mono (by omega)) (f0.tr f2) (Nat.lt_of_lt_of_le hnc (tCls_o (k := n) hnc).2) ((tCls_o hnc).1.trans hm)) ⟨rfl, rfl, rfl, rfl, rfl, trivial⟩
  refine Ct.of (lv := [some (rf G 373), some (rf G (133 + 5 * n)), some (.int (nI a)), none, none]) (ll := []) rfl rfl (EN.cat (n := 2) ⟨rfl, rfl, rfl, trivial⟩ (Nat.le_of_ble_eq_true rfl)) ?_
  first | refine x_aload_n d_Driver_split_0 rfl rfl ?_ | refine x_aloadN_n d_Driver_split_0 rfl rfl ?_ | refine x_aloadE_n d_Driver_split_0 rfl rfl ?_ | refine x_aloadO_n d_Driver_split_0 rfl rfl ?_
  refine x_getR d_Driver_split_1 f_Driver_78 rfl (by exact n0) (q1) ?_
  refine x_iload_n d_Driver_split_4 rfl rfl ?_
  refine x_iconst (v := 1) d_Driver_split_5 (by decide) ?_
  refine x_iadd d_Driver_split_6 ?_
  rw [nI_1]
  refine x_callV1 d_Driver_split_7 k_Row_at l_Driver_81 v_Row_at rfl s_Row_at (by exact nt.1) RoomE.m (Nat.le_of_ble_eq_true rfl) (c_Row_at nt ?_)
  rw [atI_nI (by omega)]
  refine x_istore_n d_Driver_split_10 rfl rfl ?_
  first | refine x_aload_n d_Driver_split_11 rfl rfl ?_ | refine x_aloadN_n d_Driver_split_11 rfl rfl ?_ | refine x_aloadE_n d_Driver_split_11 rfl rfl ?_ | refine x_aloadO_n d_Driver_split_11 rfl rfl ?_
  refine x_iconst (v := 4) d_Driver_split_12 (by decide) ?_
  refine x_iload_n d_Driver_split_13 rfl rfl ?_
  refine x_callV2 d_Driver_split_14 k_Node_become l_Driver_111 v_Node_become rfl s_Node_become (by exact n0) RoomE.m (Nat.le_of_ble_eq_true rfl) (c_Node_become hN (fun τ1 N1 f1 => ?_))
  refine x_iconst (v := 0) d_Driver_split_17 (by decide) ?_
  refine x_istore d_Driver_split_18 rfl ?_
  have f2 : FrP (inN n) σ τ1 := f1.N (by simp [inN] <;> omega)
  have fT := f2.T hn
  exact Wq.fg (lp 6 0 _ τ1 (by omega) rfl (hT.up hn f2 N1) (hD.T fT) ((hS.P fT (fun a h1 h2 h3 => by unfold inT at h3; omega)).mono (by omega)) fT.t2c hnt (by rw [tD_up]; rfl)) ⟨rfl, rfl, rfl, rfl, by rw [nI_0], trivial⟩
def stl (pt : Nat → Int32) (cs : Nat → Bool) (bd : Nat → List Int32) (T : TS) (n : Nat) (S : GS) : GS × TS :=
  if n < tN T ∧ (tD T n).1 7 = 8 ∧ tG T = false then
    (if isC ((t40 T n).getD 0 (-1)) = true then
      match nxc (sgC cs) (t40 T n) with
      | none => (S, T)
      | some a =>
        if ufs cs (fun s x => (sB bd s x).map (fun i => 33 + 2 + 2 * i)) (t40 T n) a = false ∧ (sgC cs ((t40 T n).getD a (-1)) && isV ((t40 T n).getD (a + 1) (-1))) = false then (S, tUp T n (nBecome (tD T n) 5 (-1)))
        else match renR T (ufs cs (fun s x => (sB bd s x).map (fun i => 33 + 2 + 2 * i)) (t40 T n) a) n with
          | some u => (S, tUp T n (xr (nBecome (tD T n) 6 (nI u)) 9 (some u)))
          | none => match embR (sgP pt) T (ufs cs (fun s x => (sB bd s x).map (fun i => 33 + 2 + 2 * i)) (t40 T n) a) n with
            | some u => tGen (sgP pt) T n u S
            | none => if ufs cs (fun s x => (sB bd s x).map (fun i => 33 + 2 + 2 * i)) (t40 T n) a = true then (S, tStep pt cs bd T n a) else (S, tSplit pt cs bd T n a)
    else (S, tSwc (sgP pt) T n))
  else (S, T)
set_option maxRecDepth 10000 in
set_option maxHeartbeats 1000000 in
theorem c_Driver_settle {G : Ctx} {d : Nat} {Γ : List Sh} {σ : Mem} {Q : Option Value → List Sh → Mem → Prop} {T : TS} {S : GS} {n K : Nat} {pt : Nat → Int32} {cs : Nat → Bool} {bd : Nat → List Int32}  (hD : isDrv Γ σ) (hT : isTree Γ σ T) (hG : isSg Γ σ 27 pt cs) (hSrc : isSrc Γ σ 33 27 22 bd) (hOK : SgOK pt cs) (hS : isSb Γ σ K) (hGn : isGen Γ σ S) (hn0 : n ≤ 1000) (hK : K + 12 < 1000000000) (hA : AW T) (hF : tG T = false → TF (sgP pt) T) (hQ : ∀ σ', isTree Γ σ' (stl pt cs bd T n S).2 → isGen Γ σ' (stl pt cs bd T n S).1 → isDrv Γ σ' → isSb Γ σ' (K + 12) → FrP inDr σ σ' → Q none Γ σ') : Ct G M_Driver_settle (d + 6) 0 0 [rf G 373, .int (nI n)] Γ σ Q := by
  obtain ⟨v0, ⟨v1, v2, v3, v4, v5, v6, v7, v8⟩, -⟩ := id hD
  by_cases hnt : n < tN T
  case neg =>
    refine Ct.of (lv := [some (rf G 373), some (.int (nI n)), none, none, none, none, none, none, none]) (ll := []) rfl rfl (EN.cat (n := 7) ⟨rfl, rfl, trivial⟩ (Nat.le_of_ble_eq_true rfl)) ?_
    refine x_aload_n d_Driver_settle_0 rfl rfl ?_
    refine x_getR d_Driver_settle_1 f_Driver_34 rfl (by assumption) (v3) ?_
    refine x_iload_n d_Driver_settle_4 rfl rfl ?_
    refine x_callV1 d_Driver_settle_5 k_Tree_get l_Driver_64 v_Tree_get rfl s_Tree_get (by exact hT.1) RoomE.m (Nat.le_of_ble_eq_true rfl) (c_Tree_get hT ?_)
    rw [tGet_nI (by omega), if_neg hnt]
    refine x_astoreN_n d_Driver_settle_8 rfl rfl ?_
    refine x_aloadN_n d_Driver_settle_9 rfl rfl ?_
    refine x_ifnullN (tgt := 32) d_Driver_settle_10 (by decide) ?_
    exact x_return d_Driver_settle_32 rfl (by rw [stl, if_neg (fun z => hnt z.1)] at hQ; exact hQ σ hT hGn hD (hS.mono (by omega)) FrP.rf)
  obtain ⟨t1, -, -, ⟨-, t4b⟩, -⟩ := id hT
  have hn : n < 48 := by omega
  have hN := hT.nd hn
  obtain ⟨n0, ⟨-, ii⟩, ⟨q1, -⟩, nt, -⟩ := id hN
  have hal : (t40 T n).length ≤ 40 := by rw [t40, List.length_take]; omega
  refine Ct.of (lv := [some (rf G 373), some (.int (nI n)), none, none, none, none, none, none, none]) (ll := []) rfl rfl (EN.cat (n := 7) ⟨rfl, rfl, trivial⟩ (Nat.le_of_ble_eq_true rfl)) ?_
  first | refine x_aload_n d_Driver_settle_0 rfl rfl ?_ | refine x_aloadN_n d_Driver_settle_0 rfl rfl ?_ | refine x_aloadE_n d_Driver_settle_0 rfl rfl ?_ | refine x_aloadO_n d_Driver_settle_0 rfl rfl ?_
  refine x_getR d_Driver_settle_1 f_Driver_34 rfl (by assumption) (v3) ?_
  refine x_iload_n d_Driver_settle_4 rfl rfl ?_
  refine x_callV1 d_Driver_settle_5 k_Tree_get l_Driver_64 v_Tree_get rfl s_Tree_get (by exact t1) RoomE.m (Nat.le_of_ble_eq_true rfl) (c_Tree_get hT ?_)
  rw [tGet_nI (by omega), if_pos hnt]
  first | refine x_astore_n d_Driver_settle_8 rfl rfl ?_ | refine x_astoreN_n d_Driver_settle_8 rfl rfl ?_ | refine x_astoreE_n d_Driver_settle_8 rfl rfl ?_ | refine x_astoreO_n d_Driver_settle_8 rfl rfl ?_
  first | refine x_aload_n d_Driver_settle_9 rfl rfl ?_ | refine x_aloadN_n d_Driver_settle_9 rfl rfl ?_ | refine x_aloadE_n d_Driver_settle_9 rfl rfl ?_ | refine x_aloadO_n d_Driver_settle_9 rfl rfl ?_
  refine x_ifnull d_Driver_settle_10 ?_
  first | refine x_aload_n d_Driver_settle_13 rfl rfl ?_ | refine x_aloadN_n d_Driver_settle_13 rfl rfl ?_ | refine x_aloadE_n d_Driver_settle_13 rfl rfl ?_ | refine x_aloadO_n d_Driver_settle_13 rfl rfl ?_
  refine x_getI d_Driver_settle_14 f_Driver_68 rfl (by exact n0) ?_
  refine x_bipush (v := 8) d_Driver_settle_17 (by decide) ?_
  rw [show σ.1 (nc n) 7 = (tD T n).1 7 from ii 7 rfl]
  refine x_icmp_ne (tgt := 32) d_Driver_settle_19 (by decide) (fun c19 => ?_) (fun c19 => ?_)
  · exact x_return d_Driver_settle_32 rfl (by rw [stl, if_neg (fun z => c19 z.2.1)] at hQ; exact hQ σ hT hGn hD (hS.mono (by omega)) FrP.rf)
  · first | refine x_aload_n d_Driver_settle_22 rfl rfl ?_ | refine x_aloadN_n d_Driver_settle_22 rfl rfl ?_ | refine x_aloadE_n d_Driver_settle_22 rfl rfl ?_ | refine x_aloadO_n d_Driver_settle_22 rfl rfl ?_
    refine x_getR d_Driver_settle_23 f_Driver_34 rfl (by assumption) (v3) ?_
    refine x_callV0 d_Driver_settle_26 k_Tree_isTooGreat l_Driver_74 v_Tree_isTooGreat rfl s_Tree_isTooGreat (by exact t1) RoomE.m (Nat.le_of_ble_eq_true rfl) (c_Tree_isTooGreat hT ?_)
    refine x_if_eq (tgt := 33) d_Driver_settle_29 (by decide) (fun c29 => ?_) (fun c29 => ?_)
    · have hg : tG T = false := bI_0 c29
      have hk8 : (tD T n).1 7 = 8 := c19
      first | refine x_aload_n d_Driver_settle_33 rfl rfl ?_ | refine x_aloadN_n d_Driver_settle_33 rfl rfl ?_ | refine x_aloadE_n d_Driver_settle_33 rfl rfl ?_ | refine x_aloadO_n d_Driver_settle_33 rfl rfl ?_
      refine x_getR d_Driver_settle_34 f_Driver_78 rfl (by exact n0) (q1) ?_
      first | refine x_astore_n d_Driver_settle_37 rfl rfl ?_ | refine x_astoreN_n d_Driver_settle_37 rfl rfl ?_ | refine x_astoreE_n d_Driver_settle_37 rfl rfl ?_ | refine x_astoreO_n d_Driver_settle_37 rfl rfl ?_
      first | refine x_aload_n d_Driver_settle_38 rfl rfl ?_ | refine x_aloadN_n d_Driver_settle_38 rfl rfl ?_ | refine x_aloadE_n d_Driver_settle_38 rfl rfl ?_ | refine x_aloadO_n d_Driver_settle_38 rfl rfl ?_
      refine x_iconst (v := 0) d_Driver_settle_39 (by decide) ?_
      refine x_callV1 d_Driver_settle_40 k_Row_at l_Driver_81 v_Row_at rfl s_Row_at (by exact nt.1) RoomE.m (Nat.le_of_ble_eq_true rfl) (c_Row_at (i := nI 0) nt ?_)
      rw [atI_nI (by omega)]
      refine x_callSN1 d_Driver_settle_43 k_SD_isCall ln_Driver_85 z_SD_isCall RoomE.m (Nat.le_of_ble_eq_true rfl) (c_SD_isCall ?_)
      refine x_if_ne (tgt := 55) d_Driver_settle_46 (by decide) (fun c46 => ?_) (fun c46 => ?_)
      · have hC0 : isC ((t40 T n).getD 0 (-1)) = true := bI_n0 c46
        first | refine x_aload_n d_Driver_settle_55 rfl rfl ?_ | refine x_aloadN_n d_Driver_settle_55 rfl rfl ?_ | refine x_aloadE_n d_Driver_settle_55 rfl rfl ?_ | refine x_aloadO_n d_Driver_settle_55 rfl rfl ?_
        refine x_getR d_Driver_settle_56 f_Driver_26 rfl (by assumption) (v1) ?_
        first | refine x_aload_n d_Driver_settle_59 rfl rfl ?_ | refine x_aloadN_n d_Driver_settle_59 rfl rfl ?_ | refine x_aloadE_n d_Driver_settle_59 rfl rfl ?_ | refine x_aloadO_n d_Driver_settle_59 rfl rfl ?_
        refine x_callV1 d_Driver_settle_60 k_Signs_nextCall l_Driver_93 v_Signs_nextCall rfl s_Signs_nextCall (by exact hG.1.1) RoomE.m (Nat.le_of_ble_eq_true rfl) (c_Signs_nextCall hG nt ?_)
        obtain ⟨a, hnx⟩ := nxc_some (cs := sgC cs) hC0
        have hax := nxc_lt hnx
        rw [show oI (nxc (sgC cs) ((ntm (tD T n)).take 40)) = nI a by show oI (nxc (sgC cs) (t40 T n)) = nI a; rw [hnx]; rfl]
        have kk : ¬ ((ufs cs (fun s x => (sB bd s x).map (fun i => 33 + 2 + 2 * i)) (t40 T n) a) = false ∧ (sgC cs ((t40 T n).getD a (-1)) && isV ((t40 T n).getD (a + 1) (-1))) = false) → Wq G M_Driver_settle (Em G (d + 6) 0 0 Q) 0 0 131 [some (rf G 373), some (.int (nI n)), some (rf G (133 + 5 * n)), some (rf G (134 + 5 * n)), some (.int (nI a)), some (.int (bI (ufs cs (fun s x => (sB bd s x).map (fun i => 33 + 2 + 2 * i)) (t40 T n) a))), none, none, none] [] [] Γ σ := by
          intro hns
          first | refine x_aload_n d_Driver_settle_131 rfl rfl ?_ | refine x_aloadN_n d_Driver_settle_131 rfl rfl ?_ | refine x_aloadE_n d_Driver_settle_131 rfl rfl ?_ | refine x_aloadO_n d_Driver_settle_131 rfl rfl ?_
          refine x_iload d_Driver_settle_132 rfl ?_
          refine x_callS2 d_Driver_settle_134 k_Driver_renamedRival l_Driver_115 z_Driver_renamedRival RoomE.m (Nat.le_of_ble_eq_true rfl) (c_Driver_renamedRival hT hA hnt ?_)
          rcases hR : renR T (ufs cs (fun s x => (sB bd s x).map (fun i => 33 + 2 + 2 * i)) (t40 T n) a) n with _ | u
          · show Wq _ _ _ _ _ _ _ _ (.null :: _) _ _
            refine x_astoreN d_Driver_settle_137 rfl ?_
            refine x_aloadN d_Driver_settle_139 rfl ?_
            refine x_ifnonnullN d_Driver_settle_141 ?_
            refine x_aload_n d_Driver_settle_144 rfl rfl ?_
            refine x_aload_n d_Driver_settle_145 rfl rfl ?_
            refine x_iload d_Driver_settle_146 rfl ?_
            refine x_callV2 d_Driver_settle_148 k_Driver_embeddedRival l_Driver_119 v_Driver_embeddedRival rfl s_Driver_embeddedRival (by exact hD.1) RoomE.m (Nat.le_of_ble_eq_true rfl) (c_Driver_embeddedRival hD hT hG hA hOK.1 (hF hg) hnt (fun τ2 f2 => ?_))
            have fr2 : FrP inDr σ τ2 := f2.P (by simp [inDr])
            have T2 := hT.P (f2.P (T := fun b => b = 30 ∨ b = 31 ∨ b = 32) (by simp)) (fun b hb hc => by unfold inT at hb; omega)
            have D2 := hD.P (f2.P (T := fun b => b = 30 ∨ b = 31 ∨ b = 32) (by simp)) (fun b hb hc => by unfold inD at hb; omega)
            have Gn2 := hGn.P (f2.P (T := fun b => b = 30 ∨ b = 31 ∨ b = 32) (by simp)) (fun b hb hc => by unfold inG at hb; omega)
            have S2 := hS.P (f2.P (T := fun b => b = 30 ∨ b = 31 ∨ b = 32) (by simp)) (fun b hb hc hd => by omega)
            have G2 := sg_Dr hG fr2
            have Sr2 := src_Dr hSrc fr2
            rcases hM : embR (sgP pt) T (ufs cs (fun s x => (sB bd s x).map (fun i => 33 + 2 + 2 * i)) (t40 T n) a) n with _ | u
            · show Wq _ _ _ _ _ _ _ _ (.null :: _) _ _
              by_cases hU : (ufs cs (fun s x => (sB bd s x).map (fun i => 33 + 2 + 2 * i)) (t40 T n) a) = true
              · have hE : stl pt cs bd T n S = (S, tStep pt cs bd T n a) := by rw [stl, if_pos ⟨hnt, hk8, hg⟩, if_pos hC0, hnx]; simp only [if_neg hns, hR, hM, if_pos hU]
                refine x_goto (tgt := 155) d_Driver_settle_151 (by decide) ?_
                first | refine x_astore d_Driver_settle_155 rfl ?_ | refine x_astoreN d_Driver_settle_155 rfl ?_ | refine x_astoreE d_Driver_settle_155 rfl ?_ | refine x_astoreO d_Driver_settle_155 rfl ?_
                first | refine x_aload d_Driver_settle_157 rfl ?_ | refine x_aloadN d_Driver_settle_157 rfl ?_ | refine x_aloadE d_Driver_settle_157 rfl ?_ | refine x_aloadO d_Driver_settle_157 rfl ?_
                refine x_ifnullN (tgt := 171) d_Driver_settle_159 (by decide) ?_
                first | refine x_aload d_Driver_settle_171 rfl ?_ | refine x_aloadN d_Driver_settle_171 rfl ?_ | refine x_aloadE d_Driver_settle_171 rfl ?_ | refine x_aloadO d_Driver_settle_171 rfl ?_
                refine x_ifnullN (tgt := 189) d_Driver_settle_173 (by decide) ?_
                refine x_iload d_Driver_settle_189 rfl ?_
                refine x_if_eq (tgt := 204) d_Driver_settle_191 (by decide) (fun c191 => ?_) (fun c191 => ?_)
                · exact absurd c191 (by rw [hU]; decide)
                · first | refine x_aload_n d_Driver_settle_194 rfl rfl ?_ | refine x_aloadN_n d_Driver_settle_194 rfl rfl ?_ | refine x_aloadE_n d_Driver_settle_194 rfl rfl ?_ | refine x_aloadO_n d_Driver_settle_194 rfl rfl ?_
                  first | refine x_aload_n d_Driver_settle_195 rfl rfl ?_ | refine x_aloadN_n d_Driver_settle_195 rfl rfl ?_ | refine x_aloadE_n d_Driver_settle_195 rfl rfl ?_ | refine x_aloadO_n d_Driver_settle_195 rfl rfl ?_
                  refine x_iload d_Driver_settle_196 rfl ?_
                  refine x_callV2 d_Driver_settle_198 k_Driver_step l_Driver_129 v_Driver_step rfl s_Driver_step (by exact D2.1) RoomE.m (Nat.le_of_ble_eq_true rfl) (c_Driver_step D2 T2 G2 Sr2 hOK S2 (by omega) hnt hax.1 (fun τ3 T3 D3 S3 f3 => ?_))
                  refine x_goto (tgt := 211) d_Driver_settle_201 (by decide) ?_
                  exact x_return d_Driver_settle_211 rfl (by
                    rw [hE] at hQ
                    exact hQ _ T3 (Gn2.P f3 (fun b h1 h2 => by unfold inG at h1; unfold inT at h2; omega)) D3 (S3.mono (by omega)) (fr2.tr (f3.mono (fun b z => by unfold inT at z; unfold inDr; omega))))
              · have hE : stl pt cs bd T n S = (S, tSplit pt cs bd T n a) := by rw [stl, if_pos ⟨hnt, hk8, hg⟩, if_pos hC0, hnx]; simp only [if_neg hns, hR, hM, if_neg hU]
                have hU' : (ufs cs (fun s x => (sB bd s x).map (fun i => 33 + 2 + 2 * i)) (t40 T n) a) = false := by rw [Bool.not_eq_true] at hU; exact hU
                have hvv : isV ((t40 T n).getD (a + 1) (-1)) = true := by
                  have : (sgC cs ((t40 T n).getD a (-1)) && isV ((t40 T n).getD (a + 1) (-1))) = true := by
                    rw [← Bool.not_eq_false]
                    exact fun z => hns ⟨hU', z⟩
                  exact (Bool.and_eq_true_iff.mp this).2
                refine x_goto (tgt := 155) d_Driver_settle_151 (by decide) ?_
                first | refine x_astore d_Driver_settle_155 rfl ?_ | refine x_astoreN d_Driver_settle_155 rfl ?_ | refine x_astoreE d_Driver_settle_155 rfl ?_ | refine x_astoreO d_Driver_settle_155 rfl ?_
                first | refine x_aload d_Driver_settle_157 rfl ?_ | refine x_aloadN d_Driver_settle_157 rfl ?_ | refine x_aloadE d_Driver_settle_157 rfl ?_ | refine x_aloadO d_Driver_settle_157 rfl ?_
                refine x_ifnullN (tgt := 171) d_Driver_settle_159 (by decide) ?_
                first | refine x_aload d_Driver_settle_171 rfl ?_ | refine x_aloadN d_Driver_settle_171 rfl ?_ | refine x_aloadE d_Driver_settle_171 rfl ?_ | refine x_aloadO d_Driver_settle_171 rfl ?_
                refine x_ifnullN (tgt := 189) d_Driver_settle_173 (by decide) ?_
                refine x_iload d_Driver_settle_189 rfl ?_
                refine x_if_eq (tgt := 204) d_Driver_settle_191 (by decide) (fun c191 => ?_) (fun c191 => ?_)
                · first | refine x_aload_n d_Driver_settle_204 rfl rfl ?_ | refine x_aloadN_n d_Driver_settle_204 rfl rfl ?_ | refine x_aloadE_n d_Driver_settle_204 rfl rfl ?_ | refine x_aloadO_n d_Driver_settle_204 rfl rfl ?_
                  first | refine x_aload_n d_Driver_settle_205 rfl rfl ?_ | refine x_aloadN_n d_Driver_settle_205 rfl rfl ?_ | refine x_aloadE_n d_Driver_settle_205 rfl rfl ?_ | refine x_aloadO_n d_Driver_settle_205 rfl rfl ?_
                  refine x_iload d_Driver_settle_206 rfl ?_
                  refine x_callV2 d_Driver_settle_208 k_Driver_split l_Driver_133 v_Driver_split rfl s_Driver_split (by exact D2.1) RoomE.m (Nat.le_of_ble_eq_true rfl) (c_Driver_split D2 T2 G2 Sr2 hOK S2 (by omega) hnt hax.1 hvv (fun τ3 T3 D3 S3 f3 => ?_))
                  exact x_return d_Driver_settle_211 rfl (by
                    rw [hE] at hQ
                    exact hQ _ T3 (Gn2.P f3 (fun b h1 h2 => by unfold inG at h1; unfold inC inT at h2; omega)) D3 (S3.mono (by omega)) (fr2.tr f3.c2d))
                · exact absurd (by rw [hU']; rfl) c191
            · show Wq _ _ _ _ _ _ _ _ (rf G (133 + 5 * u) :: _) _ _
              have hu := embR_lt hA hnt hM
              have hu48 : u < 48 := by omega
              have hE : stl pt cs bd T n S = tGen (sgP pt) T n u S := by rw [stl, if_pos ⟨hnt, hk8, hg⟩, if_pos hC0, hnx]; simp only [if_neg hns, hR, hM]
              refine x_goto (tgt := 155) d_Driver_settle_151 (by decide) ?_
              first | refine x_astore d_Driver_settle_155 rfl ?_ | refine x_astoreN d_Driver_settle_155 rfl ?_ | refine x_astoreE d_Driver_settle_155 rfl ?_ | refine x_astoreO d_Driver_settle_155 rfl ?_
              first | refine x_aload d_Driver_settle_157 rfl ?_ | refine x_aloadN d_Driver_settle_157 rfl ?_ | refine x_aloadE d_Driver_settle_157 rfl ?_ | refine x_aloadO d_Driver_settle_157 rfl ?_
              refine x_ifnullN (tgt := 171) d_Driver_settle_159 (by decide) ?_
              first | refine x_aload d_Driver_settle_171 rfl ?_ | refine x_aloadN d_Driver_settle_171 rfl ?_ | refine x_aloadE d_Driver_settle_171 rfl ?_ | refine x_aloadO d_Driver_settle_171 rfl ?_
              refine x_ifnull d_Driver_settle_173 ?_
              first | refine x_aload_n d_Driver_settle_176 rfl rfl ?_ | refine x_aloadN_n d_Driver_settle_176 rfl rfl ?_ | refine x_aloadE_n d_Driver_settle_176 rfl rfl ?_ | refine x_aloadO_n d_Driver_settle_176 rfl rfl ?_
              refine x_getR d_Driver_settle_177 f_Driver_47 rfl (by exact D2.1) (D2.2.1.2.2.2.2.1) ?_
              first | refine x_aload_n d_Driver_settle_180 rfl rfl ?_ | refine x_aloadN_n d_Driver_settle_180 rfl rfl ?_ | refine x_aloadE_n d_Driver_settle_180 rfl rfl ?_ | refine x_aloadO_n d_Driver_settle_180 rfl rfl ?_
              first | refine x_aload d_Driver_settle_181 rfl ?_ | refine x_aloadN d_Driver_settle_181 rfl ?_ | refine x_aloadE d_Driver_settle_181 rfl ?_ | refine x_aloadO d_Driver_settle_181 rfl ?_
              refine x_callV2 d_Driver_settle_183 k_Generaliser_generalise l_Driver_125 v_Generaliser_generalise rfl s_Generaliser_generalise (by exact Gn2.1.1) RoomE.m (Nat.le_of_ble_eq_true rfl) (c_Generaliser_generalise T2 Gn2 G2 hu.2 hnt hA hOK.1 (hF hg u hu.2) (hF hg n hnt) (fun τ3 T3 Gn3 f3 => ?_))
              refine x_goto (tgt := 211) d_Driver_settle_186 (by decide) ?_
              exact x_return d_Driver_settle_211 rfl (by
                rw [hE] at hQ
                exact hQ _ T3 Gn3 (D2.P f3 (fun a h1 h2 => by unfold inD at h1; unfold inTG inT inG at h2; omega)) ((S2.P f3 (fun a h1 h2 h3 => by unfold inTG inT inG at h3; omega)).mono (by omega)) (fr2.tr (f3.mono (fun a h2 => by unfold inTG inT inG at h2; unfold inDr; omega))))
          · show Wq _ _ _ _ _ _ _ _ (rf G (133 + 5 * u) :: _) _ _
            have hu := renR_lt hA hnt hR
            have hu48 : u < 48 := by omega
            have hE : stl pt cs bd T n S = (S, tUp T n (xr (nBecome (tD T n) 6 (nI u)) 9 (some u))) := by rw [stl, if_pos ⟨hnt, hk8, hg⟩, if_pos hC0, hnx]; simp only [if_neg hns, hR]
            first | refine x_astore d_Driver_settle_137 rfl ?_ | refine x_astoreN d_Driver_settle_137 rfl ?_ | refine x_astoreE d_Driver_settle_137 rfl ?_ | refine x_astoreO d_Driver_settle_137 rfl ?_
            first | refine x_aload d_Driver_settle_139 rfl ?_ | refine x_aloadN d_Driver_settle_139 rfl ?_ | refine x_aloadE d_Driver_settle_139 rfl ?_ | refine x_aloadO d_Driver_settle_139 rfl ?_
            refine x_ifnonnull (tgt := 154) d_Driver_settle_141 (by decide) ?_
            refine x_null d_Driver_settle_154 ?_
            first | refine x_astore d_Driver_settle_155 rfl ?_ | refine x_astoreN d_Driver_settle_155 rfl ?_ | refine x_astoreE d_Driver_settle_155 rfl ?_ | refine x_astoreO d_Driver_settle_155 rfl ?_
            first | refine x_aload d_Driver_settle_157 rfl ?_ | refine x_aloadN d_Driver_settle_157 rfl ?_ | refine x_aloadE d_Driver_settle_157 rfl ?_ | refine x_aloadO d_Driver_settle_157 rfl ?_
            refine x_ifnull d_Driver_settle_159 ?_
            first | refine x_aload_n d_Driver_settle_162 rfl rfl ?_ | refine x_aloadN_n d_Driver_settle_162 rfl rfl ?_ | refine x_aloadE_n d_Driver_settle_162 rfl rfl ?_ | refine x_aloadO_n d_Driver_settle_162 rfl rfl ?_
            first | refine x_aload d_Driver_settle_163 rfl ?_ | refine x_aloadN d_Driver_settle_163 rfl ?_ | refine x_aloadE d_Driver_settle_163 rfl ?_ | refine x_aloadO d_Driver_settle_163 rfl ?_
            refine x_callV1 d_Driver_settle_165 k_Node_fold l_Driver_122 v_Node_fold rfl s_Node_fold (by exact n0) RoomE.m (Nat.le_of_ble_eq_true rfl) (c_Node_fold hN (hT.nd hu48) hu48 (fun τ2 N2 f2 => ?_))
            refine x_goto (tgt := 211) d_Driver_settle_168 (by decide) ?_
            exact x_return d_Driver_settle_211 rfl (by
              have g2 : FrP (inN n) σ τ2 := f2.N (by simp [inN] <;> omega)
              have gT := g2.T hn
              rw [hE] at hQ
              exact hQ _ (hT.up hn g2 N2) (hGn.T gT) (hD.T gT) ((hS.P gT (fun a h1 h2 h3 => by unfold inT at h3; omega)).mono (by omega)) gT.Dr)
        have k131 : ∀ sp : Bool, sp = (sgC cs ((t40 T n).getD a (-1)) && isV ((t40 T n).getD (a + 1) (-1))) → Wq G M_Driver_settle (Em G (d + 6) 0 0 Q) 0 0 114 [some (rf G 373), some (.int (nI n)), some (rf G (133 + 5 * n)), some (rf G (134 + 5 * n)), some (.int (nI a)), some (.int (bI (ufs cs (fun s x => (sB bd s x).map (fun i => 33 + 2 + 2 * i)) (t40 T n) a))), some (.int (bI sp)), none, none] [] [] Γ σ := by
          intro sp hsp
          refine x_iload d_Driver_settle_114 rfl ?_
          refine x_if_ne (tgt := 131) d_Driver_settle_116 (by decide) (fun c116 => ?_) (fun c116 => ?_)
          · have hns : ¬ ((ufs cs (fun s x => (sB bd s x).map (fun i => 33 + 2 + 2 * i)) (t40 T n) a) = false ∧ (sgC cs ((t40 T n).getD a (-1)) && isV ((t40 T n).getD (a + 1) (-1))) = false) := by
              rintro ⟨z1, z2⟩
              first
              | exact c116 (by rw [z1]; rfl)
              | exact c121 (by rw [hsp, z2]; rfl)
            refine Wq.fg (kk hns) ⟨rfl, rfl, rfl, rfl, rfl, rfl, trivial⟩
          · refine x_iload d_Driver_settle_119 rfl ?_
            refine x_if_ne (tgt := 131) d_Driver_settle_121 (by decide) (fun c121 => ?_) (fun c121 => ?_)
            · have hns : ¬ ((ufs cs (fun s x => (sB bd s x).map (fun i => 33 + 2 + 2 * i)) (t40 T n) a) = false ∧ (sgC cs ((t40 T n).getD a (-1)) && isV ((t40 T n).getD (a + 1) (-1))) = false) := by
                rintro ⟨z1, z2⟩
                first
                | exact c116 (by rw [z1]; rfl)
                | exact c121 (by rw [hsp, z2]; rfl)
              refine Wq.fg (kk hns) ⟨rfl, rfl, rfl, rfl, rfl, rfl, trivial⟩
            · first | refine x_aload_n d_Driver_settle_124 rfl rfl ?_ | refine x_aloadN_n d_Driver_settle_124 rfl rfl ?_ | refine x_aloadE_n d_Driver_settle_124 rfl rfl ?_ | refine x_aloadO_n d_Driver_settle_124 rfl rfl ?_
              refine x_iconst (v := 5) d_Driver_settle_125 (by decide) ?_
              refine x_iconst (v := -1) d_Driver_settle_126 (by decide) ?_
              refine x_callV2 d_Driver_settle_127 k_Node_become l_Driver_111 v_Node_become rfl s_Node_become (by exact n0) RoomE.m (Nat.le_of_ble_eq_true rfl) (c_Node_become hN (fun τ2 N2 f2 => ?_))
              exact x_return d_Driver_settle_130 rfl (by
                have g2 : FrP (inN n) σ τ2 := f2.N (by simp [inN] <;> omega)
                have gT := g2.T hn
                have hE : stl pt cs bd T n S = (S, tUp T n (nBecome (tD T n) 5 (-1))) := by rw [stl, if_pos ⟨hnt, hk8, hg⟩, if_pos hC0, hnx]; simp only [if_pos (show (ufs cs (fun s x => (sB bd s x).map (fun i => 33 + 2 + 2 * i)) (t40 T n) a) = false ∧ (sgC cs ((t40 T n).getD a (-1)) && isV ((t40 T n).getD (a + 1) (-1))) = false from ⟨bI_0 c116, hsp ▸ bI_0 c121⟩)]
                rw [hE] at hQ
                exact hQ _ (hT.up hn g2 N2) (hGn.T gT) (hD.T gT) ((hS.P gT (fun a h1 h2 h3 => by unfold inT at h3; omega)).mono (by omega)) gT.Dr)
        refine x_istore d_Driver_settle_63 rfl ?_
        first | refine x_aload_n d_Driver_settle_65 rfl rfl ?_ | refine x_aloadN_n d_Driver_settle_65 rfl rfl ?_ | refine x_aloadE_n d_Driver_settle_65 rfl rfl ?_ | refine x_aloadO_n d_Driver_settle_65 rfl rfl ?_
        refine x_getR d_Driver_settle_66 f_Driver_30 rfl (by assumption) (v2) ?_
        first | refine x_aload_n d_Driver_settle_69 rfl rfl ?_ | refine x_aloadN_n d_Driver_settle_69 rfl rfl ?_ | refine x_aloadE_n d_Driver_settle_69 rfl rfl ?_ | refine x_aloadO_n d_Driver_settle_69 rfl rfl ?_
        refine x_iload d_Driver_settle_70 rfl ?_
        refine x_callU2 d_Driver_settle_72 k_Program_unfolds l_Driver_99 sm_Program_unfolds ⟨by decide, by decide⟩ (by decide +kernel) (Or.inr ⟨_, _, _, v_Program_unfolds, (k_Program_unfolds).1⟩) v_Program_unfolds rfl s4_Program_unfolds (by exact hSrc.1) RoomE.m (Nat.le_of_ble_eq_true rfl) (c_unfolds_4 hSrc.pr hG nt (by omega) (fun Q2 s x h => c_SourceProgram_bodyOf hSrc h) ?_)
        refine x_istore d_Driver_settle_75 rfl ?_
        first | refine x_aload_n d_Driver_settle_77 rfl rfl ?_ | refine x_aloadN_n d_Driver_settle_77 rfl rfl ?_ | refine x_aloadE_n d_Driver_settle_77 rfl rfl ?_ | refine x_aloadO_n d_Driver_settle_77 rfl rfl ?_
        refine x_getR d_Driver_settle_78 f_Driver_26 rfl (by assumption) (v1) ?_
        first | refine x_aload_n d_Driver_settle_81 rfl rfl ?_ | refine x_aloadN_n d_Driver_settle_81 rfl rfl ?_ | refine x_aloadE_n d_Driver_settle_81 rfl rfl ?_ | refine x_aloadO_n d_Driver_settle_81 rfl rfl ?_
        refine x_iload d_Driver_settle_82 rfl ?_
        refine x_callV1 d_Driver_settle_84 k_Row_at l_Driver_81 v_Row_at rfl s_Row_at (by exact nt.1) RoomE.m (Nat.le_of_ble_eq_true rfl) (c_Row_at nt ?_)
        rw [atI_nI (by omega)]
        refine x_callV1 d_Driver_settle_87 k_Signs_isCased l_Driver_105 v_Signs_isCased rfl s_Signs_isCased (by exact hG.1.1) RoomE.m (Nat.le_of_ble_eq_true rfl) (c_Signs_isCased hG ?_)
        refine x_if_eq (tgt := 111) d_Driver_settle_90 (by decide) (fun c90 => ?_) (fun c90 => ?_)
        · refine x_iconst (v := 0) d_Driver_settle_111 (by decide) ?_
          refine x_istore d_Driver_settle_112 rfl ?_
          first
          | exact Wq.fg (k131 true (by rw [show sgC cs ((t40 T n).getD a (-1)) = true from bI_n0 c90, show isV ((t40 T n).getD (a + 1) (-1)) = true from bI_n0 c104]; rfl)) ⟨rfl, rfl, rfl, rfl, rfl, rfl, rfl, trivial⟩
          | exact Wq.fg (k131 false (by rw [show sgC cs ((t40 T n).getD a (-1)) = true from bI_n0 c90, show isV ((t40 T n).getD (a + 1) (-1)) = false from bI_0 c104]; rfl)) ⟨rfl, rfl, rfl, rfl, rfl, rfl, rfl, trivial⟩
          | exact Wq.fg (k131 false (by rw [show sgC cs ((t40 T n).getD a (-1)) = false from bI_0 c90]; rfl)) ⟨rfl, rfl, rfl, rfl, rfl, rfl, rfl, trivial⟩
        · first | refine x_aload_n d_Driver_settle_93 rfl rfl ?_ | refine x_aloadN_n d_Driver_settle_93 rfl rfl ?_ | refine x_aloadE_n d_Driver_settle_93 rfl rfl ?_ | refine x_aloadO_n d_Driver_settle_93 rfl rfl ?_
          refine x_iload d_Driver_settle_94 rfl ?_
          refine x_iconst (v := 1) d_Driver_settle_96 (by decide) ?_
          refine x_iadd d_Driver_settle_97 ?_
          rw [nI_1]
          refine x_callV1 d_Driver_settle_98 k_Row_at l_Driver_81 v_Row_at rfl s_Row_at (by exact nt.1) RoomE.m (Nat.le_of_ble_eq_true rfl) (c_Row_at nt ?_)
          rw [atI_nI (by omega)]
          refine x_callSN1 d_Driver_settle_101 k_SD_isVariable ln_Driver_108 z_SD_isVariable RoomE.m (Nat.le_of_ble_eq_true rfl) (c_SD_isVariable ?_)
          refine x_if_eq (tgt := 111) d_Driver_settle_104 (by decide) (fun c104 => ?_) (fun c104 => ?_)
          · refine x_iconst (v := 0) d_Driver_settle_111 (by decide) ?_
            refine x_istore d_Driver_settle_112 rfl ?_
            first
            | exact Wq.fg (k131 true (by rw [show sgC cs ((t40 T n).getD a (-1)) = true from bI_n0 c90, show isV ((t40 T n).getD (a + 1) (-1)) = true from bI_n0 c104]; rfl)) ⟨rfl, rfl, rfl, rfl, rfl, rfl, rfl, trivial⟩
            | exact Wq.fg (k131 false (by rw [show sgC cs ((t40 T n).getD a (-1)) = true from bI_n0 c90, show isV ((t40 T n).getD (a + 1) (-1)) = false from bI_0 c104]; rfl)) ⟨rfl, rfl, rfl, rfl, rfl, rfl, rfl, trivial⟩
            | exact Wq.fg (k131 false (by rw [show sgC cs ((t40 T n).getD a (-1)) = false from bI_0 c90]; rfl)) ⟨rfl, rfl, rfl, rfl, rfl, rfl, rfl, trivial⟩
          · refine x_iconst (v := 1) d_Driver_settle_107 (by decide) ?_
            refine x_goto (tgt := 112) d_Driver_settle_108 (by decide) ?_
            refine x_istore d_Driver_settle_112 rfl ?_
            first
            | exact Wq.fg (k131 true (by rw [show sgC cs ((t40 T n).getD a (-1)) = true from bI_n0 c90, show isV ((t40 T n).getD (a + 1) (-1)) = true from bI_n0 c104]; rfl)) ⟨rfl, rfl, rfl, rfl, rfl, rfl, rfl, trivial⟩
            | exact Wq.fg (k131 false (by rw [show sgC cs ((t40 T n).getD a (-1)) = true from bI_n0 c90, show isV ((t40 T n).getD (a + 1) (-1)) = false from bI_0 c104]; rfl)) ⟨rfl, rfl, rfl, rfl, rfl, rfl, rfl, trivial⟩
            | exact Wq.fg (k131 false (by rw [show sgC cs ((t40 T n).getD a (-1)) = false from bI_0 c90]; rfl)) ⟨rfl, rfl, rfl, rfl, rfl, rfl, rfl, trivial⟩
      · first | refine x_aload_n d_Driver_settle_49 rfl rfl ?_ | refine x_aloadN_n d_Driver_settle_49 rfl rfl ?_ | refine x_aloadE_n d_Driver_settle_49 rfl rfl ?_ | refine x_aloadO_n d_Driver_settle_49 rfl rfl ?_
        first | refine x_aload_n d_Driver_settle_50 rfl rfl ?_ | refine x_aloadN_n d_Driver_settle_50 rfl rfl ?_ | refine x_aloadE_n d_Driver_settle_50 rfl rfl ?_ | refine x_aloadO_n d_Driver_settle_50 rfl rfl ?_
        refine x_callV1 d_Driver_settle_51 k_Driver_settleWithoutCall l_Driver_89 v_Driver_settleWithoutCall rfl s_Driver_settleWithoutCall (by exact hD.1) RoomE.m (Nat.le_of_ble_eq_true rfl) (c_Driver_settleWithoutCall hD hT hG hnt hOK.1 (hF hg n hnt) (fun τ2 T2 f2 => ?_))
        exact x_return d_Driver_settle_54 rfl (by
          rw [stl, if_pos ⟨hnt, hk8, hg⟩, if_neg (by rw [show isC ((t40 T n).getD 0 (-1)) = false from bI_0 c46]; decide)] at hQ
          exact hQ _ T2 (hGn.T f2) (hD.T f2) ((hS.P f2 (fun a h1 h2 h3 => by unfold inT at h3; omega)).mono (by omega)) f2.Dr)
    · exact x_return d_Driver_settle_32 rfl (by rw [stl, if_neg (fun z => absurd z.2.2 (by rw [bI_n0 c29]; decide))] at hQ; exact hQ σ hT hGn hD (hS.mono (by omega)) FrP.rf)
