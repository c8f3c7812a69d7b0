/-! SourceProgram.mayHave, clear -/
def okv (n s : Int32) : Bool := if isV s then decide (s < n) else true
def mhc (pt : Nat → Int32) (zs : List Int32) (n : Int32) : Bool := zs.all (okv n) && trm (sgP pt) zs 1
def mhv (pt : Nat → Int32) (cs : Nat → Bool) (f c : Int32) (zs : List Int32) : Bool := if sgC cs (200 + f) then (if c < 0 then false else if c < 6 then mhc pt zs (sgP pt (200 + f) + (pK c - 1)) else false) else if c = -1 then mhc pt zs (sgP pt (200 + f)) else false
set_option maxRecDepth 10000 in
set_option maxHeartbeats 1000000 in
theorem c_SourceProgram_mayHave {G : Ctx} {d : Nat} {Γ : List Sh} {σ : Mem} {Q : Option Value → List Sh → Mem → Prop} {q g c : Nat} {bd : Nat → List Int32} {pt : Nat → Int32} {cs : Nat → Bool} {r n : Nat} {f x : Int32} {ys : List Int32} (hS : isSrc Γ σ q g c bd) (hG : isSg Γ σ g pt cs) (hR : isRow Γ σ r n ys) (hQ : Q (some (.int (bI (mhv pt cs f x (ys.take n))))) Γ σ) : Ct G M_SourceProgram_mayHave (d + 2) 0 0 [rf G q, .int f, .int x, rf G r] Γ σ Q := by
  obtain ⟨s1, s2, s3, s4, s5, s6⟩ := id hS
  obtain ⟨⟨g1, g2, g3, g4, g5, g6⟩, -⟩ := id hG
  obtain ⟨a1, a2, a3, a4, a5, a6, a7⟩ := id hR
  have htl := hR.tl
  have lp : ∀ (k : Nat) (i : Nat) (nv : Int32), i ≤ (ys.take n).length → (ys.take n).length + 1 ≤ i + k → ((ys.take n).drop i).all (okv nv) = (ys.take n).all (okv nv) → Q (some (.int (bI (mhc pt (ys.take n) nv)))) Γ σ → Wq G M_SourceProgram_mayHave (Em G (d + 2) 0 0 Q) 0 0 65 [some (rf G q), some (.int f), some (.int x), some (rf G r), some (.int nv), some (.int (nI i))] [] [] Γ σ := by
    intro k
    induction k with
    | zero =>
      intro i nv h1 h2; omega
    | succ k ih =>
      intro i nv h1 h2 h3 hQ2
      refine x_iload d_SourceProgram_mayHave_65 rfl ?_
      first | refine x_aload_n d_SourceProgram_mayHave_67 rfl rfl ?_ | refine x_aloadN_n d_SourceProgram_mayHave_67 rfl rfl ?_ | refine x_aloadE_n d_SourceProgram_mayHave_67 rfl rfl ?_
      refine x_callV0 d_SourceProgram_mayHave_68 k_Row_length l_SourceProgram_45 v_Row_length rfl s_Row_length (by assumption) RoomE.m (Nat.le_of_ble_eq_true rfl) (c_Row_length hR ?_)
      refine x_icmp_ge (tgt := 105) d_SourceProgram_mayHave_71 (by decide) (fun c71 => ?_) (fun c71 => ?_)
      · have hil : (ys.take n).length ≤ i := by rw [nI_leI (by omega) (by omega)] at c71; exact c71
        first | refine x_aload_n d_SourceProgram_mayHave_105 rfl rfl ?_ | refine x_aloadN_n d_SourceProgram_mayHave_105 rfl rfl ?_ | refine x_aloadE_n d_SourceProgram_mayHave_105 rfl rfl ?_
        refine x_getR d_SourceProgram_mayHave_106 f_SourceProgram_20 rfl (by assumption) (by assumption) ?_
        first | refine x_aload_n d_SourceProgram_mayHave_109 rfl rfl ?_ | refine x_aloadN_n d_SourceProgram_mayHave_109 rfl rfl ?_ | refine x_aloadE_n d_SourceProgram_mayHave_109 rfl rfl ?_
        refine x_callV1 d_SourceProgram_mayHave_110 k_Signs_isTerm l_SourceProgram_55 v_Signs_isTerm rfl s_Signs_isTerm (by assumption) RoomE.m (Nat.le_of_ble_eq_true rfl) (c_Signs_isTerm hG hR ?_)
        exact x_ireturn d_SourceProgram_mayHave_113 rfl (bI_01 _) (by
          rw [List.drop_eq_nil_of_le hil] at h3
          rw [mhc, ← h3, List.all_nil, Bool.true_and] at hQ2
          exact hQ2)
      · have hil : i < (ys.take n).length := Nat.not_le.mp fun z => c71 (nI_le z (by omega))
        first | refine x_aload_n d_SourceProgram_mayHave_74 rfl rfl ?_ | refine x_aloadN_n d_SourceProgram_mayHave_74 rfl rfl ?_ | refine x_aloadE_n d_SourceProgram_mayHave_74 rfl rfl ?_
        refine x_iload d_SourceProgram_mayHave_75 rfl ?_
        refine x_callV1 d_SourceProgram_mayHave_77 k_Row_at l_SourceProgram_49 v_Row_at rfl s_Row_at (by assumption) RoomE.m (Nat.le_of_ble_eq_true rfl) (c_Row_at hR ?_)
        rw [atI_nI (by omega)]
        refine x_callSN1 d_SourceProgram_mayHave_80 k_SD_isVariable ln_SourceProgram_52 z_SD_isVariable RoomE.m (Nat.le_of_ble_eq_true rfl) (c_SD_isVariable ?_)
        refine x_if_eq (tgt := 99) d_SourceProgram_mayHave_83 (by decide) (fun c83 => ?_) (fun c83 => ?_)
        · refine x_iinc (v := nI (i + 1)) d_SourceProgram_mayHave_99 rfl (nI_1 i) rfl ?_
          refine x_goto (tgt := 65) d_SourceProgram_mayHave_102 (by decide) ?_
          exact ih (i + 1) nv (by omega) (by omega) (by
            rw [drop_cons hil, List.all_cons, okv] at h3
            first
            | (rw [bI_0 c83, if_neg (by decide), Bool.true_and] at h3; exact h3)
            | (rw [if_pos (bI_n0 c83), decide_eq_true c94, Bool.true_and] at h3; exact h3)) hQ2
        · first | refine x_aload_n d_SourceProgram_mayHave_86 rfl rfl ?_ | refine x_aloadN_n d_SourceProgram_mayHave_86 rfl rfl ?_ | refine x_aloadE_n d_SourceProgram_mayHave_86 rfl rfl ?_
          refine x_iload d_SourceProgram_mayHave_87 rfl ?_
          refine x_callV1 d_SourceProgram_mayHave_89 k_Row_at l_SourceProgram_49 v_Row_at rfl s_Row_at (by assumption) RoomE.m (Nat.le_of_ble_eq_true rfl) (c_Row_at hR ?_)
          rw [atI_nI (by omega)]
          refine x_iload d_SourceProgram_mayHave_92 rfl ?_
          refine x_icmp_lt (tgt := 99) d_SourceProgram_mayHave_94 (by decide) (fun c94 => ?_) (fun c94 => ?_)
          · refine x_iinc (v := nI (i + 1)) d_SourceProgram_mayHave_99 rfl (nI_1 i) rfl ?_
            refine x_goto (tgt := 65) d_SourceProgram_mayHave_102 (by decide) ?_
            exact ih (i + 1) nv (by omega) (by omega) (by
              rw [drop_cons hil, List.all_cons, okv] at h3
              first
              | (rw [bI_0 c83, if_neg (by decide), Bool.true_and] at h3; exact h3)
              | (rw [if_pos (bI_n0 c83), decide_eq_true c94, Bool.true_and] at h3; exact h3)) hQ2
          · refine x_iconst (v := 0) d_SourceProgram_mayHave_97 (by decide) ?_
            exact x_ireturn d_SourceProgram_mayHave_98 rfl (by decide) (by
              rw [drop_cons hil, List.all_cons, okv, if_pos (bI_n0 c83), decide_eq_false c94, Bool.false_and] at h3
              rw [mhc, ← h3, Bool.false_and] at hQ2
              exact hQ2)
  refine Ct.of (lv := [some (rf G q), some (.int f), some (.int x), some (rf G r), none, none]) (ll := []) rfl rfl (EN.cat (n := 2) ⟨rfl, rfl, rfl, rfl, trivial⟩ (Nat.le_of_ble_eq_true rfl)) ?_
  first | refine x_aload_n d_SourceProgram_mayHave_0 rfl rfl ?_ | refine x_aloadN_n d_SourceProgram_mayHave_0 rfl rfl ?_ | refine x_aloadE_n d_SourceProgram_mayHave_0 rfl rfl ?_
  refine x_getR d_SourceProgram_mayHave_1 f_SourceProgram_20 rfl (by assumption) (by assumption) ?_
  refine x_sipush (v := 200) d_SourceProgram_mayHave_4 (by decide) ?_
  refine x_iload_n d_SourceProgram_mayHave_7 rfl rfl ?_
  refine x_iadd d_SourceProgram_mayHave_8 ?_
  refine x_callV1 d_SourceProgram_mayHave_9 k_Signs_partsOf l_SourceProgram_34 v_Signs_partsOf rfl s_Signs_partsOf (by assumption) RoomE.m (Nat.le_of_ble_eq_true rfl) (c_Signs_partsOf hG ?_)
  refine x_istore d_SourceProgram_mayHave_12 rfl ?_
  first | refine x_aload_n d_SourceProgram_mayHave_14 rfl rfl ?_ | refine x_aloadN_n d_SourceProgram_mayHave_14 rfl rfl ?_ | refine x_aloadE_n d_SourceProgram_mayHave_14 rfl rfl ?_
  refine x_getR d_SourceProgram_mayHave_15 f_SourceProgram_20 rfl (by assumption) (by assumption) ?_
  refine x_sipush (v := 200) d_SourceProgram_mayHave_18 (by decide) ?_
  refine x_iload_n d_SourceProgram_mayHave_21 rfl rfl ?_
  refine x_iadd d_SourceProgram_mayHave_22 ?_
  refine x_callV1 d_SourceProgram_mayHave_23 k_Signs_isCased l_SourceProgram_38 v_Signs_isCased rfl s_Signs_isCased (by assumption) RoomE.m (Nat.le_of_ble_eq_true rfl) (c_Signs_isCased hG ?_)
  refine x_if_eq (tgt := 55) d_SourceProgram_mayHave_26 (by decide) (fun c26 => ?_) (fun c26 => ?_)
  · refine x_iload_n d_SourceProgram_mayHave_55 rfl rfl ?_
    refine x_iconst (v := -1) d_SourceProgram_mayHave_56 (by decide) ?_
    refine x_icmp_eq (tgt := 62) d_SourceProgram_mayHave_57 (by decide) (fun c57 => ?_) (fun c57 => ?_)
    · refine x_iconst (v := 0) d_SourceProgram_mayHave_62 (by decide) ?_
      refine x_istore d_SourceProgram_mayHave_63 rfl ?_
      exact lp ((ys.take n).length + 1) 0 _ (Nat.zero_le _) (by omega) rfl (by rw [mhv] at hQ; first | (rw [bI_0 c26, if_neg (by decide), if_pos c57] at hQ; exact hQ) | (rw [bI_n0 c26, if_pos rfl, if_neg c30, if_pos c36] at hQ; exact hQ))
    · refine x_iconst (v := 0) d_SourceProgram_mayHave_60 (by decide) ?_
      exact x_ireturn d_SourceProgram_mayHave_61 rfl (by decide) (by rw [mhv, bI_0 c26, if_neg (by decide), if_neg c57] at hQ; exact hQ)
  · refine x_iload_n d_SourceProgram_mayHave_29 rfl rfl ?_
    refine x_if_lt (tgt := 39) d_SourceProgram_mayHave_30 (by decide) (fun c30 => ?_) (fun c30 => ?_)
    · refine x_iconst (v := 0) d_SourceProgram_mayHave_39 (by decide) ?_
      exact x_ireturn d_SourceProgram_mayHave_40 rfl (by decide) (by rw [mhv, bI_n0 c26, if_pos rfl] at hQ; first | (rw [if_pos c30] at hQ; exact hQ) | (rw [if_neg c30, if_neg c36] at hQ; exact hQ))
    · refine x_iload_n d_SourceProgram_mayHave_33 rfl rfl ?_
      refine x_bipush (v := 6) d_SourceProgram_mayHave_34 (by decide) ?_
      refine x_icmp_lt (tgt := 41) d_SourceProgram_mayHave_36 (by decide) (fun c36 => ?_) (fun c36 => ?_)
      · refine x_iload d_SourceProgram_mayHave_41 rfl ?_
        refine x_iload_n d_SourceProgram_mayHave_43 rfl rfl ?_
        refine x_callSN1 d_SourceProgram_mayHave_44 k_SD_partsOfConstructor ln_SourceProgram_42 z_SD_partsOfConstructor RoomE.m (Nat.le_of_ble_eq_true rfl) (c_SD_partsOfConstructor ?_)
        refine x_iconst (v := 1) d_SourceProgram_mayHave_47 (by decide) ?_
        refine x_isub d_SourceProgram_mayHave_48 ?_
        refine x_iadd d_SourceProgram_mayHave_49 ?_
        refine x_istore d_SourceProgram_mayHave_50 rfl ?_
        refine x_goto (tgt := 62) d_SourceProgram_mayHave_52 (by decide) ?_
        refine x_iconst (v := 0) d_SourceProgram_mayHave_62 (by decide) ?_
        refine x_istore d_SourceProgram_mayHave_63 rfl ?_
        exact lp ((ys.take n).length + 1) 0 _ (Nat.zero_le _) (by omega) rfl (by rw [mhv] at hQ; first | (rw [bI_0 c26, if_neg (by decide), if_pos c57] at hQ; exact hQ) | (rw [bI_n0 c26, if_pos rfl, if_neg c30, if_pos c36] at hQ; exact hQ))
      · refine x_iconst (v := 0) d_SourceProgram_mayHave_39 (by decide) ?_
        exact x_ireturn d_SourceProgram_mayHave_40 rfl (by decide) (by rw [mhv, bI_n0 c26, if_pos rfl] at hQ; first | (rw [if_pos c30] at hQ; exact hQ) | (rw [if_neg c30, if_neg c36] at hQ; exact hQ))
def clrN {α : Type} (f : Nat → α) (n : Nat) (v : α) : Nat → α := fun i => if 200 ≤ i ∧ i < 200 + n then v else f i
theorem clrN_s {α : Type} (f : Nat → α) (n : Nat) (v : α) : upN (clrN f n v) (200 + n) v = clrN f (n + 1) v := by
  funext i
  unfold upN clrN
  by_cases e : i = 200 + n
  · rw [if_pos e, if_pos (by omega)]
  · rw [if_neg e]
    by_cases h : 200 ≤ i ∧ i < 200 + n
    · rw [if_pos h, if_pos (by omega)]
    · rw [if_neg h, if_neg (by omega)]
def clrB (bd : Nat → List Int32) (n : Nat) : Nat → List Int32 := fun i => if i < n then [] else bd i
theorem clrB_s (bd : Nat → List Int32) (n : Nat) : upN (clrB bd n) n [] = clrB bd (n + 1) := by
  funext i
  unfold upN clrB
  by_cases e : i = n
  · rw [if_pos e, if_pos (by omega)]
  · rw [if_neg e]
    by_cases h : i < n
    · rw [if_pos h, if_pos (by omega)]
    · rw [if_neg h, if_neg (by omega)]
set_option maxRecDepth 10000 in
set_option maxHeartbeats 1000000 in
theorem c_SourceProgram_clear {G : Ctx} {d : Nat} {Γ : List Sh} {σ : Mem} {Q : Option Value → List Sh → Mem → Prop} {q g c : Nat} {bd : Nat → List Int32} {pt : Nat → Int32} {cs : Nat → Bool} (hS : isSrc Γ σ q g c bd) (hG : isSg Γ σ g pt cs) (hdis : g + 5 < q ∨ q + 97 < g) (hQ : ∀ σ', isSg Γ σ' g (clrN pt 8 0) (clrN cs 8 false) → isSrc Γ σ' q g c (clrB bd 48) → FrP (fun a => a = g + 1 ∨ a = g + 2 ∨ (q + 2 ≤ a ∧ a ≤ q + 97)) σ σ' → Q none Γ σ') : Ct G M_SourceProgram_clear (d + 2) 0 0 [rf G q] Γ σ Q := by
  have lp2 : ∀ (k : Nat) (i : Nat) (τ : Mem), i ≤ 48 → 49 ≤ i + k → isSg Γ τ g (clrN pt 8 0) (clrN cs 8 false) → isSrc Γ τ q g c (clrB bd i) → FrP (fun a => a = g + 1 ∨ a = g + 2 ∨ (q + 2 ≤ a ∧ a ≤ q + 97)) σ τ → Wq G M_SourceProgram_clear (Em G (d + 2) 0 0 Q) 0 0 30 [some (rf G q), some (.int (nI i))] [] [] Γ τ := by
    intro k
    induction k with
    | zero =>
      intro i τ h1 h2; omega
    | succ k ih =>
      intro i τ h1 h2 hG1 hS1 f0
      obtain ⟨t1, t2, t3, t4, t5, t6⟩ := id hS1
      refine x_iload_n d_SourceProgram_clear_30 rfl rfl ?_
      first | refine x_aload_n d_SourceProgram_clear_31 rfl rfl ?_ | refine x_aloadN_n d_SourceProgram_clear_31 rfl rfl ?_ | refine x_aloadE_n d_SourceProgram_clear_31 rfl rfl ?_
      refine x_getR d_SourceProgram_clear_32 f_SourceProgram_11 rfl (by assumption) (by assumption) ?_
      refine x_alen d_SourceProgram_clear_35 (by assumption) (by decide) rfl ?_
      refine x_icmp_ge (tgt := 54) d_SourceProgram_clear_36 (by decide) (fun c36 => ?_) (fun c36 => ?_)
      · exact x_return d_SourceProgram_clear_54 rfl (by
          have hil : i = 48 := by have := (nI_leI (a := 48) (b := i) (by decide) (by omega)).mp c36; omega
          subst hil
          exact hQ _ hG1 hS1 f0)
      · have hil : i < 48 := Nat.not_le.mp fun z => c36 (nI_le z (by omega))
        have hrow := (t6 i hil).2.1
        have hr0 := hrow.1
        first | refine x_aload_n d_SourceProgram_clear_39 rfl rfl ?_ | refine x_aloadN_n d_SourceProgram_clear_39 rfl rfl ?_ | refine x_aloadE_n d_SourceProgram_clear_39 rfl rfl ?_
        refine x_getR d_SourceProgram_clear_40 f_SourceProgram_11 rfl (by assumption) (by assumption) ?_
        refine x_iload_n d_SourceProgram_clear_43 rfl rfl ?_
        refine x_aald d_SourceProgram_clear_44 (by assumption) (by decide) (vp_in_nI hil (by decide)) (by rw [nI_clamp (by omega)]; exact (t6 i hil).1) ?_
        refine x_callV0 d_SourceProgram_clear_45 k_Row_clear l_SourceProgram_30 v_Row_clear rfl s_Row_clear (by assumption) RoomE.m (Nat.le_of_ble_eq_true rfl) (c_Row_clear hrow (fun τ2 h5 f5 => ?_))
        refine x_iinc (v := nI (i + 1)) d_SourceProgram_clear_48 rfl (nI_1 i) rfl ?_
        refine x_goto (tgt := 30) d_SourceProgram_clear_51 (by decide) ?_
        exact ih (i + 1) τ2 (by omega) (by omega) (hG1.P (f5.P (T := fun a => a = q + 2 + 2 * i) (by simp)) (by omega) (by omega) (by omega)) (by
          have h8 := hS1.set hil (f5.mono (by simp)) h5 (by simp)
          rw [clrB_s] at h8
          exact h8) (f0.tr (f5.P (by intro a ha; simp at ha; omega)))
  have lp1 : ∀ (k : Nat) (i : Nat) (τ : Mem), i ≤ 8 → 9 ≤ i + k → isSg Γ τ g (clrN pt i 0) (clrN cs i false) → isSrc Γ τ q g c bd → FrP (fun a => a = g + 1 ∨ a = g + 2 ∨ (q + 2 ≤ a ∧ a ≤ q + 97)) σ τ → Wq G M_SourceProgram_clear (Em G (d + 2) 0 0 Q) 0 0 2 [some (rf G q), some (.int (nI i))] [] [] Γ τ := by
    intro k
    induction k with
    | zero =>
      intro i τ h1 h2; omega
    | succ k ih =>
      intro i τ h1 h2 hG1 hS1 f0
      obtain ⟨t1, t2, t3, t4, t5, t6⟩ := id hS1
      obtain ⟨⟨g1, g2, g3, g4, g5, g6⟩, -⟩ := id hG1
      refine x_iload_n d_SourceProgram_clear_2 rfl rfl ?_
      refine x_bipush (v := 8) d_SourceProgram_clear_3 (by decide) ?_
      refine x_icmp_ge (tgt := 28) d_SourceProgram_clear_5 (by decide) (fun c5 => ?_) (fun c5 => ?_)
      · have hil : i = 8 := by have := (nI_leI (a := 8) (b := i) (by decide) (by omega)).mp c5; omega
        subst hil
        refine x_iconst (v := 0) d_SourceProgram_clear_28 (by decide) ?_
        refine x_istore_n d_SourceProgram_clear_29 rfl rfl ?_
        exact lp2 49 0 τ (by omega) (by omega) hG1 (by
          have e : clrB bd 0 = bd := by funext j; simp [clrB]
          rw [e]; exact hS1) f0
      · have hil : i < 8 := Nat.not_le.mp fun z => c5 (nI_le z (by omega))
        have hfn := fn_ok (f := nI i) (nI_pos (by omega)) (fun z => absurd ((nI_leI (a := 8) (by decide) (by omega)).mp z) (by omega))
        first | refine x_aload_n d_SourceProgram_clear_8 rfl rfl ?_ | refine x_aloadN_n d_SourceProgram_clear_8 rfl rfl ?_ | refine x_aloadE_n d_SourceProgram_clear_8 rfl rfl ?_
        refine x_getR d_SourceProgram_clear_9 f_SourceProgram_20 rfl (by assumption) (by assumption) ?_
        refine x_sipush (v := 200) d_SourceProgram_clear_12 (by decide) ?_
        refine x_iload_n d_SourceProgram_clear_15 rfl rfl ?_
        refine x_iadd d_SourceProgram_clear_16 ?_
        refine x_iconst (v := 0) d_SourceProgram_clear_17 (by decide) ?_
        refine x_iconst (v := 0) d_SourceProgram_clear_18 (by decide) ?_
        refine x_callV3 d_SourceProgram_clear_19 k_Signs_shape l_SourceProgram_24 v_Signs_shape rfl s_Signs_shape (by assumption) RoomE.m (Nat.le_of_ble_eq_true rfl) (c_Signs_shape (b := false) hG1 hfn.1 hfn.2.1 (fun τ2 h5 f5 => ?_))
        refine x_iinc (v := nI (i + 1)) d_SourceProgram_clear_22 rfl (nI_1 i) rfl ?_
        refine x_goto (tgt := 2) d_SourceProgram_clear_25 (by decide) ?_
        exact ih (i + 1) τ2 (by omega) (by omega) (by
          rw [hfn.2.2.1, nI_clamp (by omega), clrN_s, clrN_s] at h5
          exact h5) (hS1.P (f5.P (T := fun a => a = g + 1 ∨ a = g + 2) (by simp)) (by intro a ha hb; omega)) (f0.tr (f5.P (by intro a ha; simp at ha; omega)))
  refine Ct.of (lv := [some (rf G q), none]) (ll := []) rfl rfl (EN.cat (n := 1) ⟨rfl, trivial⟩ (Nat.le_of_ble_eq_true rfl)) ?_
  refine x_iconst (v := 0) d_SourceProgram_clear_0 (by decide) ?_
  refine x_istore_n d_SourceProgram_clear_1 rfl rfl ?_
  exact lp1 9 0 σ (by omega) (by omega) (by
    have e1 : clrN pt 0 (0 : Int32) = pt := by funext j; simp [clrN]; omega
    have e2 : clrN cs 0 false = cs := by funext j; simp [clrN]; omega
    rw [e1, e2]; exact hG) hS FrP.rf
