/-! Row.isRenamingOf -/
def renOK (zs ws : List Int32) (i : Nat) : Bool := if isV (zs.getD i (-1)) && isV (ws.getD i (-1)) then decide (idxI zs (zs.getD i (-1)) = idxI ws (ws.getD i (-1))) else decide (zs.getD i (-1) = ws.getD i (-1))
def renI (zs ws : List Int32) : Bool := decide (zs.length = ws.length) && decide (∀ i, i < zs.length → renOK zs ws i = true)
theorem bI_0 {b : Bool} (h : bI b = 0) : b = false := by cases b with
  | false => rfl
  | true => simp [bI] at h
theorem bI_n0 {b : Bool} (h : ¬ bI b = 0) : b = true := by cases b with
  | true => rfl
  | false => simp [bI] at h
theorem bI_01 (b : Bool) : narrow .boolean (.int (bI b)) = .int (bI b) := by cases b <;> decide
theorem bI_tt : bI true = 1 := rfl
theorem bI_ff : bI false = 0 := rfl
theorem ren_no {P : Int32 → Prop} {zs ws : List Int32} {i : Nat} (hi : i < zs.length) (h : renOK zs ws i = false) (hQ : P (bI (renI zs ws))) : P 0 := by
  have : renI zs ws = false := by
    unfold renI
    rw [Bool.and_eq_false_iff]
    refine Or.inr (decide_eq_false fun z => ?_)
    rw [z i hi] at h; cases h
  rw [this] at hQ
  exact hQ
set_option maxRecDepth 10000 in
set_option maxHeartbeats 1000000 in
theorem c_Row_isRenamingOf {G : Ctx} {d : Nat} {Γ : List Sh} {σ : Mem} {Q : Option Value → List Sh → Mem → Prop} {r n r2 m : Nat} {ys os : List Int32} (hR : isRow Γ σ r n ys) (hO : isRow Γ σ r2 m os) (hQ : Q (some (.int (bI (renI (ys.take n) (os.take m))))) Γ σ) : Ct G M_Row_isRenamingOf (d + 2) 0 0 [rf G r, rf G r2] Γ σ Q := by
  obtain ⟨a1, a2, a3, a4, a5, a6, a7⟩ := id hR
  obtain ⟨o1, o2, o3, o4, o5, o6, o7⟩ := id hO
  have htl := hR.tl
  have hol := hO.tl
  refine Ct.of (lv := [some (rf G r), some (rf G r2), none, none, none]) (ll := []) rfl rfl (EN.cat (n := 3) ⟨rfl, rfl, trivial⟩ (Nat.le_of_ble_eq_true rfl)) ?_
  first | refine x_aload_n d_Row_isRenamingOf_0 rfl rfl ?_ | refine x_aloadN_n d_Row_isRenamingOf_0 rfl rfl ?_ | refine x_aloadE_n d_Row_isRenamingOf_0 rfl rfl ?_
  refine x_getI d_Row_isRenamingOf_1 f_Row_21 rfl (by assumption) ?_
  first | refine x_aload_n d_Row_isRenamingOf_4 rfl rfl ?_ | refine x_aloadN_n d_Row_isRenamingOf_4 rfl rfl ?_ | refine x_aloadE_n d_Row_isRenamingOf_4 rfl rfl ?_
  refine x_getI d_Row_isRenamingOf_5 f_Row_21 rfl (by assumption) ?_
  refine x_icmp_eq (tgt := 13) d_Row_isRenamingOf_8 (by decide) (fun c8 => ?_) (fun c8 => ?_)
  · have hlen : (ys.take n).length = (os.take m).length := by rw [a5, o5, nI_eq (by omega) (by omega)] at c8; exact c8
    have lp : ∀ (k : Nat) (i : Nat), i ≤ (ys.take n).length → (ys.take n).length + 1 ≤ i + k → (∀ j, j < i → renOK (ys.take n) (os.take m) j = true) → Wq G M_Row_isRenamingOf (Em G (d + 2) 0 0 Q) 0 0 15 [some (rf G r), some (rf G r2), some (.int (nI i)), none, none] [] [] Γ σ := by
      intro k
      induction k with
      | zero =>
        intro i h1 h2; omega
      | succ k ih =>
        intro i h1 h2 h3
        refine x_iload_n d_Row_isRenamingOf_15 rfl rfl ?_
        first | refine x_aload_n d_Row_isRenamingOf_16 rfl rfl ?_ | refine x_aloadN_n d_Row_isRenamingOf_16 rfl rfl ?_ | refine x_aloadE_n d_Row_isRenamingOf_16 rfl rfl ?_
        refine x_getI d_Row_isRenamingOf_17 f_Row_21 rfl (by assumption) ?_
        refine x_icmp_ge (tgt := 81) d_Row_isRenamingOf_20 (by decide) (fun c20 => ?_) (fun c20 => ?_)
        · have hil : (ys.take n).length ≤ i := by rw [a5, nI_leI (by omega) (by omega)] at c20; exact c20
          refine x_iconst (v := 1) d_Row_isRenamingOf_81 (by decide) ?_
          exact x_ireturn d_Row_isRenamingOf_82 rfl (by decide) (by
            have : renI (ys.take n) (os.take m) = true := by
              unfold renI
              rw [decide_eq_true hlen, Bool.true_and]
              exact decide_eq_true (fun j hj => h3 j (by omega))
            rw [this] at hQ
            exact hQ)
        · have hil : i < (ys.take n).length := Nat.not_le.mp fun z => c20 (by rw [a5]; exact nI_le z (by omega))
          first | refine x_aload_n d_Row_isRenamingOf_23 rfl rfl ?_ | refine x_aloadN_n d_Row_isRenamingOf_23 rfl rfl ?_ | refine x_aloadE_n d_Row_isRenamingOf_23 rfl rfl ?_
          refine x_iload_n d_Row_isRenamingOf_24 rfl rfl ?_
          refine x_callV1 d_Row_isRenamingOf_25 k_Row_at l_Row_45 v_Row_at rfl s_Row_at (by assumption) RoomE.m (Nat.le_of_ble_eq_true rfl) (c_Row_at hR ?_)
          rw [atI_nI (by omega)]
          refine x_istore_n d_Row_isRenamingOf_28 rfl rfl ?_
          first | refine x_aload_n d_Row_isRenamingOf_29 rfl rfl ?_ | refine x_aloadN_n d_Row_isRenamingOf_29 rfl rfl ?_ | refine x_aloadE_n d_Row_isRenamingOf_29 rfl rfl ?_
          refine x_iload_n d_Row_isRenamingOf_30 rfl rfl ?_
          refine x_callV1 d_Row_isRenamingOf_31 k_Row_at l_Row_45 v_Row_at rfl s_Row_at (by assumption) RoomE.m (Nat.le_of_ble_eq_true rfl) (c_Row_at hO ?_)
          rw [atI_nI (by omega)]
          refine x_istore d_Row_isRenamingOf_34 rfl ?_
          refine x_iload_n d_Row_isRenamingOf_36 rfl rfl ?_
          refine x_callSN1 d_Row_isRenamingOf_37 k_SD_isVariable ln_Row_49 z_SD_isVariable RoomE.m (Nat.le_of_ble_eq_true rfl) (c_SD_isVariable ?_)
          refine x_if_eq (tgt := 67) d_Row_isRenamingOf_40 (by decide) (fun c40 => ?_) (fun c40 => ?_)
          · refine x_iload_n d_Row_isRenamingOf_67 rfl rfl ?_
            refine x_iload d_Row_isRenamingOf_68 rfl ?_
            refine x_icmp_eq (tgt := 75) d_Row_isRenamingOf_70 (by decide) (fun c70 => ?_) (fun c70 => ?_)
            · refine x_iinc (v := nI (i + 1)) d_Row_isRenamingOf_75 rfl (nI_1 i) rfl ?_
              refine x_goto (tgt := 15) d_Row_isRenamingOf_78 (by decide) ?_
              exact Wq.fg (ih (i + 1) (by omega) (by omega) (fun j hj => (show j < i ∨ j = i by omega).elim (h3 j) (fun h => by
                rw [h]
                unfold renOK
                first
                | (rw [bI_0 c40, Bool.false_and, if_neg (by decide)]; exact decide_eq_true c70)
                | (rw [bI_0 c48, Bool.and_false, if_neg (by decide)]; exact decide_eq_true c70)
                | (rw [bI_n0 c40, bI_n0 c48, Bool.and_true, if_pos rfl]; exact decide_eq_true c62)))) ⟨rfl, rfl, rfl, trivial⟩
            · refine x_iconst (v := 0) d_Row_isRenamingOf_73 (by decide) ?_
              exact x_ireturn d_Row_isRenamingOf_74 rfl (by decide) (ren_no (P := fun v => Q (some (.int v)) Γ σ) hil (by
                unfold renOK
                first
                | (rw [bI_0 c40, Bool.false_and, if_neg (by decide)]; exact decide_eq_false c70)
                | (rw [bI_0 c48, Bool.and_false, if_neg (by decide)]; exact decide_eq_false c70)
                | (rw [bI_n0 c40, bI_n0 c48, Bool.and_true, if_pos rfl]; exact decide_eq_false c62)) hQ)
          · refine x_iload d_Row_isRenamingOf_43 rfl ?_
            refine x_callSN1 d_Row_isRenamingOf_45 k_SD_isVariable ln_Row_49 z_SD_isVariable RoomE.m (Nat.le_of_ble_eq_true rfl) (c_SD_isVariable ?_)
            refine x_if_eq (tgt := 67) d_Row_isRenamingOf_48 (by decide) (fun c48 => ?_) (fun c48 => ?_)
            · refine x_iload_n d_Row_isRenamingOf_67 rfl rfl ?_
              refine x_iload d_Row_isRenamingOf_68 rfl ?_
              refine x_icmp_eq (tgt := 75) d_Row_isRenamingOf_70 (by decide) (fun c70 => ?_) (fun c70 => ?_)
              · refine x_iinc (v := nI (i + 1)) d_Row_isRenamingOf_75 rfl (nI_1 i) rfl ?_
                refine x_goto (tgt := 15) d_Row_isRenamingOf_78 (by decide) ?_
                exact Wq.fg (ih (i + 1) (by omega) (by omega) (fun j hj => (show j < i ∨ j = i by omega).elim (h3 j) (fun h => by
                  rw [h]
                  unfold renOK
                  first
                  | (rw [bI_0 c40, Bool.false_and, if_neg (by decide)]; exact decide_eq_true c70)
                  | (rw [bI_0 c48, Bool.and_false, if_neg (by decide)]; exact decide_eq_true c70)
                  | (rw [bI_n0 c40, bI_n0 c48, Bool.and_true, if_pos rfl]; exact decide_eq_true c62)))) ⟨rfl, rfl, rfl, trivial⟩
              · refine x_iconst (v := 0) d_Row_isRenamingOf_73 (by decide) ?_
                exact x_ireturn d_Row_isRenamingOf_74 rfl (by decide) (ren_no (P := fun v => Q (some (.int v)) Γ σ) hil (by
                  unfold renOK
                  first
                  | (rw [bI_0 c40, Bool.false_and, if_neg (by decide)]; exact decide_eq_false c70)
                  | (rw [bI_0 c48, Bool.and_false, if_neg (by decide)]; exact decide_eq_false c70)
                  | (rw [bI_n0 c40, bI_n0 c48, Bool.and_true, if_pos rfl]; exact decide_eq_false c62)) hQ)
            · first | refine x_aload_n d_Row_isRenamingOf_51 rfl rfl ?_ | refine x_aloadN_n d_Row_isRenamingOf_51 rfl rfl ?_ | refine x_aloadE_n d_Row_isRenamingOf_51 rfl rfl ?_
              refine x_iload_n d_Row_isRenamingOf_52 rfl rfl ?_
              refine x_callV1 d_Row_isRenamingOf_53 k_Row_indexOf l_Row_53 v_Row_indexOf rfl s_Row_indexOf (by assumption) RoomE.m (Nat.le_of_ble_eq_true rfl) (c_Row_indexOf hR ?_)
              first | refine x_aload_n d_Row_isRenamingOf_56 rfl rfl ?_ | refine x_aloadN_n d_Row_isRenamingOf_56 rfl rfl ?_ | refine x_aloadE_n d_Row_isRenamingOf_56 rfl rfl ?_
              refine x_iload d_Row_isRenamingOf_57 rfl ?_
              refine x_callV1 d_Row_isRenamingOf_59 k_Row_indexOf l_Row_53 v_Row_indexOf rfl s_Row_indexOf (by assumption) RoomE.m (Nat.le_of_ble_eq_true rfl) (c_Row_indexOf hO ?_)
              refine x_icmp_eq (tgt := 75) d_Row_isRenamingOf_62 (by decide) (fun c62 => ?_) (fun c62 => ?_)
              · refine x_iinc (v := nI (i + 1)) d_Row_isRenamingOf_75 rfl (nI_1 i) rfl ?_
                refine x_goto (tgt := 15) d_Row_isRenamingOf_78 (by decide) ?_
                exact Wq.fg (ih (i + 1) (by omega) (by omega) (fun j hj => (show j < i ∨ j = i by omega).elim (h3 j) (fun h => by
                  rw [h]
                  unfold renOK
                  first
                  | (rw [bI_0 c40, Bool.false_and, if_neg (by decide)]; exact decide_eq_true c70)
                  | (rw [bI_0 c48, Bool.and_false, if_neg (by decide)]; exact decide_eq_true c70)
                  | (rw [bI_n0 c40, bI_n0 c48, Bool.and_true, if_pos rfl]; exact decide_eq_true c62)))) ⟨rfl, rfl, rfl, trivial⟩
              · refine x_iconst (v := 0) d_Row_isRenamingOf_65 (by decide) ?_
                exact x_ireturn d_Row_isRenamingOf_66 rfl (by decide) (ren_no (P := fun v => Q (some (.int v)) Γ σ) hil (by
                  unfold renOK
                  first
                  | (rw [bI_0 c40, Bool.false_and, if_neg (by decide)]; exact decide_eq_false c70)
                  | (rw [bI_0 c48, Bool.and_false, if_neg (by decide)]; exact decide_eq_false c70)
                  | (rw [bI_n0 c40, bI_n0 c48, Bool.and_true, if_pos rfl]; exact decide_eq_false c62)) hQ)
    refine x_iconst (v := 0) d_Row_isRenamingOf_13 (by decide) ?_
    refine x_istore_n d_Row_isRenamingOf_14 rfl rfl ?_
    exact lp ((ys.take n).length + 1) 0 (Nat.zero_le _) (by omega) (fun j hj => absurd hj (Nat.not_lt_zero j))
  · refine x_iconst (v := 0) d_Row_isRenamingOf_11 (by decide) ?_
    exact x_ireturn d_Row_isRenamingOf_12 rfl (by decide) (by
      have : renI (ys.take n) (os.take m) = false := by
        unfold renI
        rw [decide_eq_false (fun z => c8 (by rw [a5, o5, z])), Bool.false_and]
      rw [this] at hQ
      exact hQ)
