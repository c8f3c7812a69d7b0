/-! Signs.isTerm, isValue, nextCall -/
def trm (P : Int32 → Int32) : List Int32 → Int32 → Bool
  | [], m => decide (m = 0)
  | x :: l, m => if m = 0 then false else if isC x && decide (P x = 0) then false else trm P l (m + (P x - 1))
def nxc (cs : Int32 → Bool) : List Int32 → Option Nat
  | [] => none
  | x :: l => if isC x && !(cs x && isC (l.getD 0 (-1))) then some 0 else (nxc cs l).map (· + 1)
def oI : Option Nat → Int32
  | some k => nI k
  | none => -1
theorem getD_drop {zs : List Int32} {i : Nat} : (zs.drop (i + 1)).getD 0 (-1) = zs.getD (i + 1) (-1) := by
  simp [List.getD_eq_getElem?_getD]
theorem omap {o : Option Nat} {i : Nat} : (o.map (· + 1)).map (· + i) = o.map (· + (i + 1)) := by
  cases o with
  | none => rfl
  | some k => simp; omega
set_option maxRecDepth 10000 in
set_option maxHeartbeats 1000000 in
theorem c_Signs_isTerm {G : Ctx} {d : Nat} {Γ : List Sh} {σ : Mem} {Q : Option Value → List Sh → Mem → Prop} {g : Nat} {pt : Nat → Int32} {cs : Nat → Bool} {r n : Nat} {ys : List Int32} (hG : isSg Γ σ g pt cs) (hR : isRow Γ σ r n ys) (hQ : Q (some (.int (bI (trm (sgP pt) (ys.take n) 1)))) Γ σ) : Ct G M_Signs_isTerm (d + 1) 0 0 [rf G g, rf G r] Γ σ Q := by
  obtain ⟨⟨s1, s2, s3, s4, s5, s6⟩, ⟨r1, r2, r3, r4, r5⟩, sp, sc⟩ := id hG
  obtain ⟨a1, a2, a3, a4, a5, a6, a7⟩ := id hR
  have htl := hR.tl
  have lp : ∀ (k : Nat) (i : Nat) (mis : Int32), i ≤ (ys.take n).length → (ys.take n).length + 1 ≤ i + k → trm (sgP pt) ((ys.take n).drop i) mis = trm (sgP pt) (ys.take n) 1 → Wq G M_Signs_isTerm (Em G (d + 1) 0 0 Q) 0 0 4 [some (rf G g), some (rf G r), some (.int mis), some (.int (nI i)), none] [] [] Γ σ := by
    intro k
    induction k with
    | zero =>
      intro i mis h1 h2; omega
    | succ k ih =>
      intro i mis h1 h2 h3
      refine x_iload_n d_Signs_isTerm_4 rfl rfl ?_
      first | refine x_aload_n d_Signs_isTerm_5 rfl rfl ?_ | refine x_aloadN_n d_Signs_isTerm_5 rfl rfl ?_ | refine x_aloadE_n d_Signs_isTerm_5 rfl rfl ?_
      refine x_callV0 d_Signs_isTerm_6 k_Row_length l_Signs_36 v_Row_length rfl s_Row_length (by assumption) RoomE.m (Nat.le_of_ble_eq_true rfl) (c_Row_length hR ?_)
      refine x_icmp_ge (tgt := 58) d_Signs_isTerm_9 (by decide) (fun c9 => ?_) (fun c9 => ?_)
      · have hil : (ys.take n).length ≤ i := by rw [nI_leI (by omega) (by omega)] at c9; exact c9
        refine x_iload_n d_Signs_isTerm_58 rfl rfl ?_
        refine x_if_ne (tgt := 66) d_Signs_isTerm_59 (by decide) (fun c59 => ?_) (fun c59 => ?_)
        · refine x_iconst (v := 0) d_Signs_isTerm_66 (by decide) ?_
          exact x_ireturn d_Signs_isTerm_67 rfl (by decide) (by
            rw [List.drop_eq_nil_of_le hil, trm] at h3
            first | rw [decide_eq_true c59] at h3 | rw [decide_eq_false c59] at h3
            rw [← h3] at hQ
            exact hQ)
        · refine x_iconst (v := 1) d_Signs_isTerm_62 (by decide) ?_
          refine x_goto (tgt := 67) d_Signs_isTerm_63 (by decide) ?_
          exact x_ireturn d_Signs_isTerm_67 rfl (by decide) (by
            rw [List.drop_eq_nil_of_le hil, trm] at h3
            first | rw [decide_eq_true c59] at h3 | rw [decide_eq_false c59] at h3
            rw [← h3] at hQ
            exact hQ)
      · have hil : i < (ys.take n).length := Nat.not_le.mp fun z => c9 (nI_le z (by omega))
        first | refine x_aload_n d_Signs_isTerm_12 rfl rfl ?_ | refine x_aloadN_n d_Signs_isTerm_12 rfl rfl ?_ | refine x_aloadE_n d_Signs_isTerm_12 rfl rfl ?_
        first | refine x_aload_n d_Signs_isTerm_13 rfl rfl ?_ | refine x_aloadN_n d_Signs_isTerm_13 rfl rfl ?_ | refine x_aloadE_n d_Signs_isTerm_13 rfl rfl ?_
        refine x_iload_n d_Signs_isTerm_14 rfl rfl ?_
        refine x_callV1 d_Signs_isTerm_15 k_Row_at l_Signs_42 v_Row_at rfl s_Row_at (by assumption) RoomE.m (Nat.le_of_ble_eq_true rfl) (c_Row_at hR ?_)
        rw [atI_nI (by omega)]
        refine x_callV1 d_Signs_isTerm_18 k_Signs_partsOf l_Signs_46 v_Signs_partsOf rfl s_Signs_partsOf (by assumption) RoomE.m (Nat.le_of_ble_eq_true rfl) (c_Signs_partsOf hG ?_)
        refine x_istore d_Signs_isTerm_21 rfl ?_
        refine x_iload_n d_Signs_isTerm_23 rfl rfl ?_
        refine x_if_eq (tgt := 43) d_Signs_isTerm_24 (by decide) (fun c24 => ?_) (fun c24 => ?_)
        · refine x_iconst (v := 0) d_Signs_isTerm_43 (by decide) ?_
          exact x_ireturn d_Signs_isTerm_44 rfl (by decide) (by
            rw [drop_cons hil, trm, ] at h3
            first | rw [if_pos c24] at h3 | rw [if_neg c24, bI_n0 c35, decide_eq_true c40, Bool.and_true, if_pos rfl] at h3
            rw [← h3] at hQ
            exact hQ)
        · first | refine x_aload_n d_Signs_isTerm_27 rfl rfl ?_ | refine x_aloadN_n d_Signs_isTerm_27 rfl rfl ?_ | refine x_aloadE_n d_Signs_isTerm_27 rfl rfl ?_
          refine x_iload_n d_Signs_isTerm_28 rfl rfl ?_
          refine x_callV1 d_Signs_isTerm_29 k_Row_at l_Signs_42 v_Row_at rfl s_Row_at (by assumption) RoomE.m (Nat.le_of_ble_eq_true rfl) (c_Row_at hR ?_)
          rw [atI_nI (by omega)]
          refine x_callSN1 d_Signs_isTerm_32 k_SD_isCall ln_Signs_32 z_SD_isCall RoomE.m (Nat.le_of_ble_eq_true rfl) (c_SD_isCall ?_)
          refine x_if_eq (tgt := 45) d_Signs_isTerm_35 (by decide) (fun c35 => ?_) (fun c35 => ?_)
          · refine x_iload_n d_Signs_isTerm_45 rfl rfl ?_
            refine x_iload d_Signs_isTerm_46 rfl ?_
            refine x_iconst (v := 1) d_Signs_isTerm_48 (by decide) ?_
            refine x_isub d_Signs_isTerm_49 ?_
            refine x_iadd d_Signs_isTerm_50 ?_
            refine x_istore_n d_Signs_isTerm_51 rfl rfl ?_
            refine x_iinc (v := nI (i + 1)) d_Signs_isTerm_52 rfl (nI_1 i) rfl ?_
            refine x_goto (tgt := 4) d_Signs_isTerm_55 (by decide) ?_
            exact Wq.fg (ih (i + 1) _ (by omega) (by omega) (by
              rw [drop_cons hil, trm, if_neg c24] at h3
              first | (rw [bI_0 c35, Bool.false_and, if_neg (by decide)] at h3; exact h3) | (rw [decide_eq_false c40, Bool.and_false, if_neg (by decide)] at h3; exact h3))) ⟨rfl, rfl, rfl, rfl, trivial⟩
          · refine x_iload d_Signs_isTerm_38 rfl ?_
            refine x_if_ne (tgt := 45) d_Signs_isTerm_40 (by decide) (fun c40 => ?_) (fun c40 => ?_)
            · refine x_iload_n d_Signs_isTerm_45 rfl rfl ?_
              refine x_iload d_Signs_isTerm_46 rfl ?_
              refine x_iconst (v := 1) d_Signs_isTerm_48 (by decide) ?_
              refine x_isub d_Signs_isTerm_49 ?_
              refine x_iadd d_Signs_isTerm_50 ?_
              refine x_istore_n d_Signs_isTerm_51 rfl rfl ?_
              refine x_iinc (v := nI (i + 1)) d_Signs_isTerm_52 rfl (nI_1 i) rfl ?_
              refine x_goto (tgt := 4) d_Signs_isTerm_55 (by decide) ?_
              exact Wq.fg (ih (i + 1) _ (by omega) (by omega) (by
                rw [drop_cons hil, trm, if_neg c24] at h3
                first | (rw [bI_0 c35, Bool.false_and, if_neg (by decide)] at h3; exact h3) | (rw [decide_eq_false c40, Bool.and_false, if_neg (by decide)] at h3; exact h3))) ⟨rfl, rfl, rfl, rfl, trivial⟩
            · refine x_iconst (v := 0) d_Signs_isTerm_43 (by decide) ?_
              exact x_ireturn d_Signs_isTerm_44 rfl (by decide) (by
                rw [drop_cons hil, trm, ] at h3
                first | rw [if_pos c24] at h3 | rw [if_neg c24, bI_n0 c35, decide_eq_true c40, Bool.and_true, if_pos rfl] at h3
                rw [← h3] at hQ
                exact hQ)
  refine Ct.of (lv := [some (rf G g), some (rf G r), none, none, none]) (ll := []) rfl rfl (EN.cat (n := 3) ⟨rfl, rfl, trivial⟩ (Nat.le_of_ble_eq_true rfl)) ?_
  refine x_iconst (v := 1) d_Signs_isTerm_0 (by decide) ?_
  refine x_istore_n d_Signs_isTerm_1 rfl rfl ?_
  refine x_iconst (v := 0) d_Signs_isTerm_2 (by decide) ?_
  refine x_istore_n d_Signs_isTerm_3 rfl rfl ?_
  exact lp ((ys.take n).length + 1) 0 1 (Nat.zero_le _) (by omega) rfl
set_option maxRecDepth 10000 in
set_option maxHeartbeats 1000000 in
theorem c_Signs_isValue {G : Ctx} {d : Nat} {Γ : List Sh} {σ : Mem} {Q : Option Value → List Sh → Mem → Prop} {g : Nat} {pt : Nat → Int32} {cs : Nat → Bool} {r n : Nat} {ys : List Int32} (hG : isSg Γ σ g pt cs) (hR : isRow Γ σ r n ys) (hQ : Q (some (.int (bI ((ys.take n).all isK && trm (sgP pt) (ys.take n) 1)))) Γ σ) : Ct G M_Signs_isValue (d + 2) 0 0 [rf G g, rf G r] Γ σ Q := by
  obtain ⟨⟨s1, s2, s3, s4, s5, s6⟩, ⟨r1, r2, r3, r4, r5⟩, sp, sc⟩ := id hG
  obtain ⟨a1, a2, a3, a4, a5, a6, a7⟩ := id hR
  have htl := hR.tl
  have lp : ∀ (k : Nat) (i : Nat), i ≤ (ys.take n).length → (ys.take n).length + 1 ≤ i + k → ((ys.take n).drop i).all isK = (ys.take n).all isK → Wq G M_Signs_isValue (Em G (d + 2) 0 0 Q) 0 0 2 [some (rf G g), some (rf G r), some (.int (nI i))] [] [] Γ σ := by
    intro k
    induction k with
    | zero =>
      intro i h1 h2; omega
    | succ k ih =>
      intro i h1 h2 h3
      refine x_iload_n d_Signs_isValue_2 rfl rfl ?_
      first | refine x_aload_n d_Signs_isValue_3 rfl rfl ?_ | refine x_aloadN_n d_Signs_isValue_3 rfl rfl ?_ | refine x_aloadE_n d_Signs_isValue_3 rfl rfl ?_
      refine x_callV0 d_Signs_isValue_4 k_Row_length l_Signs_36 v_Row_length rfl s_Row_length (by assumption) RoomE.m (Nat.le_of_ble_eq_true rfl) (c_Row_length hR ?_)
      refine x_icmp_ge (tgt := 29) d_Signs_isValue_7 (by decide) (fun c7 => ?_) (fun c7 => ?_)
      · have hil : (ys.take n).length ≤ i := by rw [nI_leI (by omega) (by omega)] at c7; exact c7
        first | refine x_aload_n d_Signs_isValue_29 rfl rfl ?_ | refine x_aloadN_n d_Signs_isValue_29 rfl rfl ?_ | refine x_aloadE_n d_Signs_isValue_29 rfl rfl ?_
        first | refine x_aload_n d_Signs_isValue_30 rfl rfl ?_ | refine x_aloadN_n d_Signs_isValue_30 rfl rfl ?_ | refine x_aloadE_n d_Signs_isValue_30 rfl rfl ?_
        refine x_callV1 d_Signs_isValue_31 k_Signs_isTerm l_Signs_52 v_Signs_isTerm rfl s_Signs_isTerm (by assumption) RoomE.m (Nat.le_of_ble_eq_true rfl) (c_Signs_isTerm hG hR ?_)
        exact x_ireturn d_Signs_isValue_34 rfl (bI_01 _) (by
          rw [List.drop_eq_nil_of_le hil] at h3
          rw [← h3, List.all_nil, Bool.true_and] at hQ
          exact hQ)
      · have hil : i < (ys.take n).length := Nat.not_le.mp fun z => c7 (nI_le z (by omega))
        first | refine x_aload_n d_Signs_isValue_10 rfl rfl ?_ | refine x_aloadN_n d_Signs_isValue_10 rfl rfl ?_ | refine x_aloadE_n d_Signs_isValue_10 rfl rfl ?_
        refine x_iload_n d_Signs_isValue_11 rfl rfl ?_
        refine x_callV1 d_Signs_isValue_12 k_Row_at l_Signs_42 v_Row_at rfl s_Row_at (by assumption) RoomE.m (Nat.le_of_ble_eq_true rfl) (c_Row_at hR ?_)
        rw [atI_nI (by omega)]
        refine x_callSN1 d_Signs_isValue_15 k_SD_isConstructor ln_Signs_49 z_SD_isConstructor RoomE.m (Nat.le_of_ble_eq_true rfl) (c_SD_isConstructor ?_)
        refine x_if_ne (tgt := 23) d_Signs_isValue_18 (by decide) (fun c18 => ?_) (fun c18 => ?_)
        · refine x_iinc (v := nI (i + 1)) d_Signs_isValue_23 rfl (nI_1 i) rfl ?_
          refine x_goto (tgt := 2) d_Signs_isValue_26 (by decide) ?_
          exact ih (i + 1) (by omega) (by omega) (by rw [drop_cons hil, List.all_cons, bI_n0 c18, Bool.true_and] at h3; exact h3)
        · refine x_iconst (v := 0) d_Signs_isValue_21 (by decide) ?_
          exact x_ireturn d_Signs_isValue_22 rfl (by decide) (by
            rw [drop_cons hil, List.all_cons, bI_0 c18, Bool.false_and] at h3
            rw [← h3, Bool.false_and] at hQ
            exact hQ)
  refine Ct.of (lv := [some (rf G g), some (rf G r), none]) (ll := []) rfl rfl (EN.cat (n := 1) ⟨rfl, rfl, trivial⟩ (Nat.le_of_ble_eq_true rfl)) ?_
  refine x_iconst (v := 0) d_Signs_isValue_0 (by decide) ?_
  refine x_istore_n d_Signs_isValue_1 rfl rfl ?_
  exact lp ((ys.take n).length + 1) 0 (Nat.zero_le _) (by omega) rfl
set_option maxRecDepth 10000 in
set_option maxHeartbeats 1000000 in
theorem c_Signs_nextCall {G : Ctx} {d : Nat} {Γ : List Sh} {σ : Mem} {Q : Option Value → List Sh → Mem → Prop} {g : Nat} {pt : Nat → Int32} {cs : Nat → Bool} {r n : Nat} {ys : List Int32} (hG : isSg Γ σ g pt cs) (hR : isRow Γ σ r n ys) (hQ : Q (some (.int (oI (nxc (sgC cs) (ys.take n))))) Γ σ) : Ct G M_Signs_nextCall (d + 1) 0 0 [rf G g, rf G r] Γ σ Q := by
  obtain ⟨⟨s1, s2, s3, s4, s5, s6⟩, ⟨r1, r2, r3, r4, r5⟩, sp, sc⟩ := id hG
  obtain ⟨a1, a2, a3, a4, a5, a6, a7⟩ := id hR
  have htl := hR.tl
  have lp : ∀ (k : Nat) (i : Nat), i ≤ (ys.take n).length → (ys.take n).length + 1 ≤ i + k → (nxc (sgC cs) ((ys.take n).drop i)).map (· + i) = nxc (sgC cs) (ys.take n) → Wq G M_Signs_nextCall (Em G (d + 1) 0 0 Q) 0 0 2 [some (rf G g), some (rf G r), some (.int (nI i)), none] [] [] Γ σ := by
    intro k
    induction k with
    | zero =>
      intro i h1 h2; omega
    | succ k ih =>
      intro i h1 h2 h3
      refine x_iload_n d_Signs_nextCall_2 rfl rfl ?_
      first | refine x_aload_n d_Signs_nextCall_3 rfl rfl ?_ | refine x_aloadN_n d_Signs_nextCall_3 rfl rfl ?_ | refine x_aloadE_n d_Signs_nextCall_3 rfl rfl ?_
      refine x_callV0 d_Signs_nextCall_4 k_Row_length l_Signs_36 v_Row_length rfl s_Row_length (by assumption) RoomE.m (Nat.le_of_ble_eq_true rfl) (c_Row_length hR ?_)
      refine x_icmp_ge (tgt := 52) d_Signs_nextCall_7 (by decide) (fun c7 => ?_) (fun c7 => ?_)
      · have hil : (ys.take n).length ≤ i := by rw [nI_leI (by omega) (by omega)] at c7; exact c7
        refine x_iconst (v := -1) d_Signs_nextCall_52 (by decide) ?_
        exact x_ireturn d_Signs_nextCall_53 rfl rfl (by
          rw [List.drop_eq_nil_of_le hil] at h3
          rw [← h3] at hQ
          exact hQ)
      · have hil : i < (ys.take n).length := Nat.not_le.mp fun z => c7 (nI_le z (by omega))
        first | refine x_aload_n d_Signs_nextCall_10 rfl rfl ?_ | refine x_aloadN_n d_Signs_nextCall_10 rfl rfl ?_ | refine x_aloadE_n d_Signs_nextCall_10 rfl rfl ?_
        refine x_iload_n d_Signs_nextCall_11 rfl rfl ?_
        refine x_callV1 d_Signs_nextCall_12 k_Row_at l_Signs_42 v_Row_at rfl s_Row_at (by assumption) RoomE.m (Nat.le_of_ble_eq_true rfl) (c_Row_at hR ?_)
        rw [atI_nI (by omega)]
        refine x_istore_n d_Signs_nextCall_15 rfl rfl ?_
        refine x_iload_n d_Signs_nextCall_16 rfl rfl ?_
        refine x_callSN1 d_Signs_nextCall_17 k_SD_isCall ln_Signs_32 z_SD_isCall RoomE.m (Nat.le_of_ble_eq_true rfl) (c_SD_isCall ?_)
        refine x_if_eq (tgt := 46) d_Signs_nextCall_20 (by decide) (fun c20 => ?_) (fun c20 => ?_)
        · refine x_iinc (v := nI (i + 1)) d_Signs_nextCall_46 rfl (nI_1 i) rfl ?_
          refine x_goto (tgt := 2) d_Signs_nextCall_49 (by decide) ?_
          exact Wq.fg (ih (i + 1) (by omega) (by omega) (by
            rw [drop_cons hil, nxc, getD_drop] at h3
            first
            | (rw [bI_0 c20, Bool.false_and, if_neg (by decide), omap] at h3; exact h3)
            | (rw [bI_n0 c20, bI_n0 c28, bI_n0 c41, Bool.and_true, Bool.not_true, Bool.and_false, if_neg (by decide), omap] at h3; exact h3))) ⟨rfl, rfl, rfl, trivial⟩
        · first | refine x_aload_n d_Signs_nextCall_23 rfl rfl ?_ | refine x_aloadN_n d_Signs_nextCall_23 rfl rfl ?_ | refine x_aloadE_n d_Signs_nextCall_23 rfl rfl ?_
          refine x_iload_n d_Signs_nextCall_24 rfl rfl ?_
          refine x_callV1 d_Signs_nextCall_25 k_Signs_isCased l_Signs_56 v_Signs_isCased rfl s_Signs_isCased (by assumption) RoomE.m (Nat.le_of_ble_eq_true rfl) (c_Signs_isCased hG ?_)
          refine x_if_eq (tgt := 44) d_Signs_nextCall_28 (by decide) (fun c28 => ?_) (fun c28 => ?_)
          · refine x_iload_n d_Signs_nextCall_44 rfl rfl ?_
            exact x_ireturn d_Signs_nextCall_45 rfl rfl (by
              rw [drop_cons hil, nxc, getD_drop, bI_n0 c20] at h3
              first
              | (rw [bI_0 c28, Bool.false_and, Bool.not_false, Bool.and_true, if_pos rfl] at h3; rw [← h3] at hQ; simpa [oI] using hQ)
              | (rw [bI_0 c41, Bool.and_false, Bool.not_false, Bool.and_true, if_pos rfl] at h3; rw [← h3] at hQ; simpa [oI] using hQ))
          · first | refine x_aload_n d_Signs_nextCall_31 rfl rfl ?_ | refine x_aloadN_n d_Signs_nextCall_31 rfl rfl ?_ | refine x_aloadE_n d_Signs_nextCall_31 rfl rfl ?_
            refine x_iload_n d_Signs_nextCall_32 rfl rfl ?_
            refine x_iconst (v := 1) d_Signs_nextCall_33 (by decide) ?_
            refine x_iadd d_Signs_nextCall_34 ?_
            rw [nI_1]
            refine x_callV1 d_Signs_nextCall_35 k_Row_at l_Signs_42 v_Row_at rfl s_Row_at (by assumption) RoomE.m (Nat.le_of_ble_eq_true rfl) (c_Row_at hR ?_)
            rw [atI_nI (by omega)]
            refine x_callSN1 d_Signs_nextCall_38 k_SD_isCall ln_Signs_32 z_SD_isCall RoomE.m (Nat.le_of_ble_eq_true rfl) (c_SD_isCall ?_)
            refine x_if_ne (tgt := 46) d_Signs_nextCall_41 (by decide) (fun c41 => ?_) (fun c41 => ?_)
            · refine x_iinc (v := nI (i + 1)) d_Signs_nextCall_46 rfl (nI_1 i) rfl ?_
              refine x_goto (tgt := 2) d_Signs_nextCall_49 (by decide) ?_
              exact Wq.fg (ih (i + 1) (by omega) (by omega) (by
                rw [drop_cons hil, nxc, getD_drop] at h3
                first
                | (rw [bI_0 c20, Bool.false_and, if_neg (by decide), omap] at h3; exact h3)
                | (rw [bI_n0 c20, bI_n0 c28, bI_n0 c41, Bool.and_true, Bool.not_true, Bool.and_false, if_neg (by decide), omap] at h3; exact h3))) ⟨rfl, rfl, rfl, trivial⟩
            · refine x_iload_n d_Signs_nextCall_44 rfl rfl ?_
              exact x_ireturn d_Signs_nextCall_45 rfl rfl (by
                rw [drop_cons hil, nxc, getD_drop, bI_n0 c20] at h3
                first
                | (rw [bI_0 c28, Bool.false_and, Bool.not_false, Bool.and_true, if_pos rfl] at h3; rw [← h3] at hQ; simpa [oI] using hQ)
                | (rw [bI_0 c41, Bool.and_false, Bool.not_false, Bool.and_true, if_pos rfl] at h3; rw [← h3] at hQ; simpa [oI] using hQ))
  refine Ct.of (lv := [some (rf G g), some (rf G r), none, none]) (ll := []) rfl rfl (EN.cat (n := 2) ⟨rfl, rfl, trivial⟩ (Nat.le_of_ble_eq_true rfl)) ?_
  refine x_iconst (v := 0) d_Signs_nextCall_0 (by decide) ?_
  refine x_istore_n d_Signs_nextCall_1 rfl rfl ?_
  exact lp ((ys.take n).length + 1) 0 (Nat.zero_le _) (by omega) (by rw [List.drop_zero]; cases nxc (sgC cs) (ys.take n) <;> rfl)
