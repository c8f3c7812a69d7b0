/-! the constructors of the class -/
set_option maxRecDepth 10000 in
set_option maxHeartbeats 1000000 in
theorem c_Row_init {G : Ctx} {d : Nat} {Γ : List Sh} {σ : Mem} {Q : Option Value → List Sh → Mem → Prop} {k n : Nat} (hT : Γ[k]? = some (0, 1)) (hL : Γ.length = k + 1) (hn : n ≤ 1000000) (hQ : ∀ Γ' σ', Nw Γ σ (Is k) 1 Γ' σ' → isRow Γ' σ' k n [] → Q none Γ' σ') : Ct G M_Row_init (d + 1) 1 n [rf G k, .int (nI n)] Γ σ Q := by
  refine Ct.of (lv := [some (rf G k), some (.int (nI n))]) (ll := []) rfl rfl (EN.cat (n := 0) ⟨rfl, rfl, trivial⟩ (Nat.le_of_ble_eq_true rfl)) ?_
  have W : Nw Γ σ (Is k) 0 Γ σ := Nw.rf
  first | refine x_aload_n d_Row_init_0 rfl rfl ?_ | refine x_aloadN_n d_Row_init_0 rfl rfl ?_ | refine x_aloadE_n d_Row_init_0 rfl rfl ?_ | refine x_aloadO_n d_Row_init_0 rfl rfl ?_
  refine x_objInit d_Row_init_1 l_Row_3 v_objInit k_objInit RoomL.m (Nat.le_of_ble_eq_true rfl) ?_
  first | refine x_aload_n d_Row_init_4 rfl rfl ?_ | refine x_aloadN_n d_Row_init_4 rfl rfl ?_ | refine x_aloadE_n d_Row_init_4 rfl rfl ?_ | refine x_aloadO_n d_Row_init_4 rfl rfl ?_
  refine x_iload_n d_Row_init_5 rfl rfl ?_
  refine x_iconst (v := 0) d_Row_init_6 (by decide) ?_
  refine x_mmax d_Row_init_7 l_Row_9 z_mmax ini_Math k_mmax RoomL.m (Nat.le_of_ble_eq_true rfl) ?_
  refine Wq.bud (bc := 0 + 1) (bs := 0 + n) (by omega) (by omega) ?_
  refine Wq.top (y := nI n) (if_neg (nI_pos (by omega))) ?_
  refine x_newaK (k := k + 1) (t := 1) (N := n) (bc := 0) (bs := 0) (by omega) d_Row_init_10 rfl (by decide) ac_int (nI_pos (by omega)) (nI_clamp (by omega)) (show n * 4 ≤ 536870912 by omega) EvOK.m (fun Γ1 σ1 w1 aw1 zw1 => ?_)
  have hL := w1.len hL
  have hT := w1.sh hT
  have W := W.tr w1.any
  first | refine x_putR d_Row_init_12 w_Row_init_15 rfl (by assumption) ?_ | refine x_putN d_Row_init_12 w_Row_init_15 rfl (by assumption) ?_ | refine x_putQ d_Row_init_12 w_Row_init_15 rfl (by assumption) ?_
  generalize ew2 : wR σ1 k 0 (some (k + 1)) = σ2
  have w2 : Nw Γ1 σ1 (Is k) 0 Γ1 σ2 := by rw [← ew2]; exact Nw.wR
  have aw1 := w2.sh aw1
  have zw1 := zw1.nw w2 (by omega) (by first | exact no0 | exact Is.no (by omega))
  have hL := w2.len hL
  have hT := w2.sh hT
  have W := W.tr w2
  have fw2 : σ2.2.1 k 0 = (some (k + 1)) := by rw [← ew2]; exact wR_s
  first | refine x_aload_n d_Row_init_15 rfl rfl ?_ | refine x_aloadN_n d_Row_init_15 rfl rfl ?_ | refine x_aloadE_n d_Row_init_15 rfl rfl ?_ | refine x_aloadO_n d_Row_init_15 rfl rfl ?_
  refine x_iconst (v := 0) d_Row_init_16 (by decide) ?_
  refine x_putI d_Row_init_17 (w_Row_init_21 _) rfl (by first | rfl | decide) (by first | rfl | decide) (by assumption) ?_
  generalize ew3 : wI σ2 k 1 0 = σ3
  have w3 : Nw Γ1 σ2 (Is k) 0 Γ1 σ3 := by rw [← ew3]; exact Nw.wI
  have aw1 := w3.sh aw1
  have zw1 := zw1.nw w3 (by omega) (by first | exact no0 | exact Is.no (by omega))
  have fw2 : σ3.2.1 k 0 = (some (k + 1)) := by rw [← ew3]; exact fw2
  have hL := w3.len hL
  have hT := w3.sh hT
  have W := W.tr w3
  have fw3 : σ3.1 k 1 = 0 := by rw [← ew3]; exact wI_s
  first | refine x_aload_n d_Row_init_20 rfl rfl ?_ | refine x_aloadN_n d_Row_init_20 rfl rfl ?_ | refine x_aloadE_n d_Row_init_20 rfl rfl ?_ | refine x_aloadO_n d_Row_init_20 rfl rfl ?_
  refine x_iconst (v := 0) d_Row_init_21 (by decide) ?_
  refine x_putI d_Row_init_22 (w_Row_init_25 _) rfl (by first | rfl | decide) (by first | rfl | decide) (by assumption) ?_
  generalize ew4 : wI σ3 k 2 0 = σ4
  have w4 : Nw Γ1 σ3 (Is k) 0 Γ1 σ4 := by rw [← ew4]; exact Nw.wI
  have aw1 := w4.sh aw1
  have zw1 := zw1.nw w4 (by omega) (by first | exact no0 | exact Is.no (by omega))
  have fw2 : σ4.2.1 k 0 = (some (k + 1)) := by rw [← ew4]; exact fw2
  have fw3 : σ4.1 k 1 = 0 := by rw [← ew4, wI_j (by decide)]; exact fw3
  have hL := w4.len hL
  have hT := w4.sh hT
  have W := W.tr w4
  have fw4 : σ4.1 k 2 = 0 := by rw [← ew4]; exact wI_s
  exact x_return d_Row_init_25 rfl (hQ _ _ W (⟨hT, aw1, fw2, hn, by rw [fw3, List.take_nil]; exact nI_0.symm, fun i hi => by rw [List.take_nil] at hi; exact absurd hi (Nat.not_lt_zero _), by rw [fw4]; show (0 : Int32) = bI (decide (n < 0)); rw [decide_eq_false (Nat.not_lt_zero n)]; rfl⟩))
set_option maxRecDepth 10000 in
set_option maxHeartbeats 1000000 in
theorem c_Substitution_init {G : Ctx} {d : Nat} {Γ : List Sh} {σ : Mem} {Q : Option Value → List Sh → Mem → Prop}  (hT : Γ[22]? = some (0, 2)) (hL : Γ.length = 23) (hQ : ∀ Γ' σ', Nw Γ σ (Is 22) 4 Γ' σ' → isSub Γ' σ' 22 0 (fun _ => some (22, 0, 0)) → Q none Γ' σ') : Ct G M_Substitution_init (d + 1) 4 400 [rf G 22] Γ σ Q := by
  refine Ct.of (lv := [some (rf G 22)]) (ll := []) rfl rfl (EN.cat (n := 0) ⟨rfl, trivial⟩ (Nat.le_of_ble_eq_true rfl)) ?_
  have W : Nw Γ σ (Is 22) 0 Γ σ := Nw.rf
  first | refine x_aload_n d_Substitution_init_0 rfl rfl ?_ | refine x_aloadN_n d_Substitution_init_0 rfl rfl ?_ | refine x_aloadE_n d_Substitution_init_0 rfl rfl ?_ | refine x_aloadO_n d_Substitution_init_0 rfl rfl ?_
  refine x_objInit d_Substitution_init_1 l_Substitution_3 v_objInit k_objInit RoomL.m (Nat.le_of_ble_eq_true rfl) ?_
  first | refine x_aload_n d_Substitution_init_4 rfl rfl ?_ | refine x_aloadN_n d_Substitution_init_4 rfl rfl ?_ | refine x_aloadE_n d_Substitution_init_4 rfl rfl ?_ | refine x_aloadO_n d_Substitution_init_4 rfl rfl ?_
  refine x_bipush (v := 100) d_Substitution_init_5 (by decide) ?_
  refine Wq.bud (bc := 3 + 1) (bs := 300 + 100) (by omega) (by omega) ?_
  refine x_anewK (k := 23) (t := 4) (N := 100) (bc := 3) (bs := 300) (by omega) d_Substitution_init_7 cl_Substitution_9 rfl (by decide) ao_Row (by decide) (by decide) (by decide) EvOK.m (fun Γ1 σ1 w1 aw1 zw1 => ?_)
  have hL := w1.len hL
  have hT := w1.sh hT
  have W := W.tr w1.any
  first | refine x_putR d_Substitution_init_10 w_Substitution_init_11 rfl (by assumption) ?_ | refine x_putN d_Substitution_init_10 w_Substitution_init_11 rfl (by assumption) ?_ | refine x_putQ d_Substitution_init_10 w_Substitution_init_11 rfl (by assumption) ?_
  generalize ew2 : wR σ1 22 0 (some 23) = σ2
  have w2 : Nw Γ1 σ1 (Is 22) 0 Γ1 σ2 := by rw [← ew2]; exact Nw.wR
  have aw1 := w2.sh aw1
  have zw1 := zw1.nw w2 (by omega) (by first | exact no0 | exact Is.no (by omega))
  have hL := w2.len hL
  have hT := w2.sh hT
  have W := W.tr w2
  have fw2 : σ2.2.1 22 0 = (some 23) := by rw [← ew2]; exact wR_s
  first | refine x_aload_n d_Substitution_init_13 rfl rfl ?_ | refine x_aloadN_n d_Substitution_init_13 rfl rfl ?_ | refine x_aloadE_n d_Substitution_init_13 rfl rfl ?_ | refine x_aloadO_n d_Substitution_init_13 rfl rfl ?_
  refine x_bipush (v := 100) d_Substitution_init_14 (by decide) ?_
  refine Wq.bud (bc := 2 + 1) (bs := 200 + 100) (by omega) (by omega) ?_
  refine x_newaK (k := 24) (t := 1) (N := 100) (bc := 2) (bs := 200) (by omega) d_Substitution_init_16 rfl (by decide) ac_int (by decide) (by decide) (by decide) EvOK.m (fun Γ3 σ3 w3 aw3 zw3 => ?_)
  have aw1 := w3.sh aw1
  have zw1 := zw1.nw w3 (by omega) (by first | exact no0 | exact Is.no (by omega))
  have fw2 := w3.r (by omega) (by first | exact no0 | exact Is.no (by omega)) fw2
  have hL := w3.len hL
  have hT := w3.sh hT
  have W := W.tr w3.any
  first | refine x_putR d_Substitution_init_18 w_Substitution_init_17 rfl (by assumption) ?_ | refine x_putN d_Substitution_init_18 w_Substitution_init_17 rfl (by assumption) ?_ | refine x_putQ d_Substitution_init_18 w_Substitution_init_17 rfl (by assumption) ?_
  generalize ew4 : wR σ3 22 1 (some 24) = σ4
  have w4 : Nw Γ3 σ3 (Is 22) 0 Γ3 σ4 := by rw [← ew4]; exact Nw.wR
  have aw1 := w4.sh aw1
  have zw1 := zw1.nw w4 (by omega) (by first | exact no0 | exact Is.no (by omega))
  have aw3 := w4.sh aw3
  have zw3 := zw3.nw w4 (by omega) (by first | exact no0 | exact Is.no (by omega))
  have fw2 : σ4.2.1 22 0 = (some 23) := by rw [← ew4, wR_j (by decide)]; exact fw2
  have hL := w4.len hL
  have hT := w4.sh hT
  have W := W.tr w4
  have fw4 : σ4.2.1 22 1 = (some 24) := by rw [← ew4]; exact wR_s
  first | refine x_aload_n d_Substitution_init_21 rfl rfl ?_ | refine x_aloadN_n d_Substitution_init_21 rfl rfl ?_ | refine x_aloadE_n d_Substitution_init_21 rfl rfl ?_ | refine x_aloadO_n d_Substitution_init_21 rfl rfl ?_
  refine x_bipush (v := 100) d_Substitution_init_22 (by decide) ?_
  refine Wq.bud (bc := 1 + 1) (bs := 100 + 100) (by omega) (by omega) ?_
  refine x_newaK (k := 25) (t := 1) (N := 100) (bc := 1) (bs := 100) (by omega) d_Substitution_init_24 rfl (by decide) ac_int (by decide) (by decide) (by decide) EvOK.m (fun Γ5 σ5 w5 aw5 zw5 => ?_)
  have aw1 := w5.sh aw1
  have zw1 := zw1.nw w5 (by omega) (by first | exact no0 | exact Is.no (by omega))
  have aw3 := w5.sh aw3
  have zw3 := zw3.nw w5 (by omega) (by first | exact no0 | exact Is.no (by omega))
  have fw2 := w5.r (by omega) (by first | exact no0 | exact Is.no (by omega)) fw2
  have fw4 := w5.r (by omega) (by first | exact no0 | exact Is.no (by omega)) fw4
  have hL := w5.len hL
  have hT := w5.sh hT
  have W := W.tr w5.any
  first | refine x_putR d_Substitution_init_26 w_Substitution_init_21 rfl (by assumption) ?_ | refine x_putN d_Substitution_init_26 w_Substitution_init_21 rfl (by assumption) ?_ | refine x_putQ d_Substitution_init_26 w_Substitution_init_21 rfl (by assumption) ?_
  generalize ew6 : wR σ5 22 2 (some 25) = σ6
  have w6 : Nw Γ5 σ5 (Is 22) 0 Γ5 σ6 := by rw [← ew6]; exact Nw.wR
  have aw1 := w6.sh aw1
  have zw1 := zw1.nw w6 (by omega) (by first | exact no0 | exact Is.no (by omega))
  have aw3 := w6.sh aw3
  have zw3 := zw3.nw w6 (by omega) (by first | exact no0 | exact Is.no (by omega))
  have aw5 := w6.sh aw5
  have zw5 := zw5.nw w6 (by omega) (by first | exact no0 | exact Is.no (by omega))
  have fw2 : σ6.2.1 22 0 = (some 23) := by rw [← ew6, wR_j (by decide)]; exact fw2
  have fw4 : σ6.2.1 22 1 = (some 24) := by rw [← ew6, wR_j (by decide)]; exact fw4
  have hL := w6.len hL
  have hT := w6.sh hT
  have W := W.tr w6
  have fw6 : σ6.2.1 22 2 = (some 25) := by rw [← ew6]; exact wR_s
  first | refine x_aload_n d_Substitution_init_29 rfl rfl ?_ | refine x_aloadN_n d_Substitution_init_29 rfl rfl ?_ | refine x_aloadE_n d_Substitution_init_29 rfl rfl ?_ | refine x_aloadO_n d_Substitution_init_29 rfl rfl ?_
  refine x_bipush (v := 100) d_Substitution_init_30 (by decide) ?_
  refine Wq.bud (bc := 0 + 1) (bs := 0 + 100) (by omega) (by omega) ?_
  refine x_newaK (k := 26) (t := 1) (N := 100) (bc := 0) (bs := 0) (by omega) d_Substitution_init_32 rfl (by decide) ac_int (by decide) (by decide) (by decide) EvOK.m (fun Γ7 σ7 w7 aw7 zw7 => ?_)
  have aw1 := w7.sh aw1
  have zw1 := zw1.nw w7 (by omega) (by first | exact no0 | exact Is.no (by omega))
  have aw3 := w7.sh aw3
  have zw3 := zw3.nw w7 (by omega) (by first | exact no0 | exact Is.no (by omega))
  have aw5 := w7.sh aw5
  have zw5 := zw5.nw w7 (by omega) (by first | exact no0 | exact Is.no (by omega))
  have fw2 := w7.r (by omega) (by first | exact no0 | exact Is.no (by omega)) fw2
  have fw4 := w7.r (by omega) (by first | exact no0 | exact Is.no (by omega)) fw4
  have fw6 := w7.r (by omega) (by first | exact no0 | exact Is.no (by omega)) fw6
  have hL := w7.len hL
  have hT := w7.sh hT
  have W := W.tr w7.any
  first | refine x_putR d_Substitution_init_34 w_Substitution_init_24 rfl (by assumption) ?_ | refine x_putN d_Substitution_init_34 w_Substitution_init_24 rfl (by assumption) ?_ | refine x_putQ d_Substitution_init_34 w_Substitution_init_24 rfl (by assumption) ?_
  generalize ew8 : wR σ7 22 3 (some 26) = σ8
  have w8 : Nw Γ7 σ7 (Is 22) 0 Γ7 σ8 := by rw [← ew8]; exact Nw.wR
  have aw1 := w8.sh aw1
  have zw1 := zw1.nw w8 (by omega) (by first | exact no0 | exact Is.no (by omega))
  have aw3 := w8.sh aw3
  have zw3 := zw3.nw w8 (by omega) (by first | exact no0 | exact Is.no (by omega))
  have aw5 := w8.sh aw5
  have zw5 := zw5.nw w8 (by omega) (by first | exact no0 | exact Is.no (by omega))
  have aw7 := w8.sh aw7
  have zw7 := zw7.nw w8 (by omega) (by first | exact no0 | exact Is.no (by omega))
  have fw2 : σ8.2.1 22 0 = (some 23) := by rw [← ew8, wR_j (by decide)]; exact fw2
  have fw4 : σ8.2.1 22 1 = (some 24) := by rw [← ew8, wR_j (by decide)]; exact fw4
  have fw6 : σ8.2.1 22 2 = (some 25) := by rw [← ew8, wR_j (by decide)]; exact fw6
  have hL := w8.len hL
  have hT := w8.sh hT
  have W := W.tr w8
  have fw8 : σ8.2.1 22 3 = (some 26) := by rw [← ew8]; exact wR_s
  first | refine x_aload_n d_Substitution_init_37 rfl rfl ?_ | refine x_aloadN_n d_Substitution_init_37 rfl rfl ?_ | refine x_aloadE_n d_Substitution_init_37 rfl rfl ?_ | refine x_aloadO_n d_Substitution_init_37 rfl rfl ?_
  refine x_iconst (v := 0) d_Substitution_init_38 (by decide) ?_
  refine x_putI d_Substitution_init_39 (w_Substitution_init_27 _) rfl (by first | rfl | decide) (by first | rfl | decide) (by assumption) ?_
  generalize ew9 : wI σ8 22 4 0 = σ9
  have w9 : Nw Γ7 σ8 (Is 22) 0 Γ7 σ9 := by rw [← ew9]; exact Nw.wI
  have aw1 := w9.sh aw1
  have zw1 := zw1.nw w9 (by omega) (by first | exact no0 | exact Is.no (by omega))
  have aw3 := w9.sh aw3
  have zw3 := zw3.nw w9 (by omega) (by first | exact no0 | exact Is.no (by omega))
  have aw5 := w9.sh aw5
  have zw5 := zw5.nw w9 (by omega) (by first | exact no0 | exact Is.no (by omega))
  have aw7 := w9.sh aw7
  have zw7 := zw7.nw w9 (by omega) (by first | exact no0 | exact Is.no (by omega))
  have fw2 : σ9.2.1 22 0 = (some 23) := by rw [← ew9]; exact fw2
  have fw4 : σ9.2.1 22 1 = (some 24) := by rw [← ew9]; exact fw4
  have fw6 : σ9.2.1 22 2 = (some 25) := by rw [← ew9]; exact fw6
  have fw8 : σ9.2.1 22 3 = (some 26) := by rw [← ew9]; exact fw8
  have hL := w9.len hL
  have hT := w9.sh hT
  have W := W.tr w9
  have fw9 : σ9.1 22 4 = 0 := by rw [← ew9]; exact wI_s
  exact x_return d_Substitution_init_42 rfl (hQ _ _ W (⟨⟨hT, aw1, aw3, aw5, aw7⟩, ⟨fw2, fw4, fw6, fw8⟩, by rw [fw9, nI_0], by omega, fun v hv => Or.inr ⟨by rw [zw7.1 v, nI_0], 22, 0, 0, rfl, Or.inl rfl, by rw [zw3.1 v, nI_0], by rw [zw5.1 v, nI_0]⟩⟩))
def pt0 (i : Nat) : Int32 := if 100 ≤ i ∧ i < 106 then cPt (i - 100) else 0
/-- the parts of the first c constructors -/
def ptc (c i : Nat) : Int32 := if 100 ≤ i ∧ i < 100 + c then cPt (i - 100) else 0
set_option maxRecDepth 10000 in
set_option maxHeartbeats 1000000 in
theorem c_Signs_init {G : Ctx} {d : Nat} {Γ : List Sh} {σ : Mem} {Q : Option Value → List Sh → Mem → Prop} (hT : Γ[27]? = some (0, 3)) (hL : Γ.length = 28) (hQ : ∀ Γ' σ', Nw Γ σ (Is 27) 5 Γ' σ' → isSg Γ' σ' 27 pt0 (fun _ => false) → Q none Γ' σ') : Ct G M_Signs_init (d + 1) 5 922 [rf G 27] Γ σ Q := by
  refine Ct.of (lv := [some (rf G 27), none]) (ll := []) rfl rfl (EN.cat (n := 1) ⟨rfl, trivial⟩ (Nat.le_of_ble_eq_true rfl)) ?_
  have W : Nw Γ σ (Is 27) 0 Γ σ := Nw.rf
  first | refine x_aload_n d_Signs_init_0 rfl rfl ?_ | refine x_aloadN_n d_Signs_init_0 rfl rfl ?_ | refine x_aloadE_n d_Signs_init_0 rfl rfl ?_ | refine x_aloadO_n d_Signs_init_0 rfl rfl ?_
  refine x_objInit d_Signs_init_1 l_Signs_3 v_objInit k_objInit RoomL.m (Nat.le_of_ble_eq_true rfl) ?_
  first | refine x_aload_n d_Signs_init_4 rfl rfl ?_ | refine x_aloadN_n d_Signs_init_4 rfl rfl ?_ | refine x_aloadE_n d_Signs_init_4 rfl rfl ?_ | refine x_aloadO_n d_Signs_init_4 rfl rfl ?_
  refine x_sipush (v := 401) d_Signs_init_5 (by decide) ?_
  refine Wq.bud (bc := 4 + 1) (bs := 521 + 401) (by omega) (by omega) ?_
  refine x_newaK (k := 28) (t := 1) (N := 401) (bc := 4) (bs := 521) (by omega) d_Signs_init_8 rfl (by decide) ac_int (by decide) (by decide) (by decide) EvOK.m (fun Γ1 σ1 w1 aw1 zw1 => ?_)
  have hL := w1.len hL
  have hT := w1.sh hT
  have W := W.tr w1.any
  first | refine x_putR d_Signs_init_10 w_Signs_init_9 rfl (by assumption) ?_ | refine x_putN d_Signs_init_10 w_Signs_init_9 rfl (by assumption) ?_ | refine x_putQ d_Signs_init_10 w_Signs_init_9 rfl (by assumption) ?_
  generalize ew2 : wR σ1 27 0 (some 28) = σ2
  have w2 : Nw Γ1 σ1 (Is 27) 0 Γ1 σ2 := by rw [← ew2]; exact Nw.wR
  have aw1 := w2.sh aw1
  have zw1 := zw1.nw w2 (by omega) (by first | exact no0 | exact Is.no (by omega))
  have hL := w2.len hL
  have hT := w2.sh hT
  have W := W.tr w2
  have fw2 : σ2.2.1 27 0 = (some 28) := by rw [← ew2]; exact wR_s
  first | refine x_aload_n d_Signs_init_13 rfl rfl ?_ | refine x_aloadN_n d_Signs_init_13 rfl rfl ?_ | refine x_aloadE_n d_Signs_init_13 rfl rfl ?_ | refine x_aloadO_n d_Signs_init_13 rfl rfl ?_
  refine x_sipush (v := 401) d_Signs_init_14 (by decide) ?_
  refine Wq.bud (bc := 3 + 1) (bs := 120 + 401) (by omega) (by omega) ?_
  refine x_newaK (k := 29) (t := 2) (N := 401) (bc := 3) (bs := 120) (by omega) d_Signs_init_17 rfl (by decide) ac_boolean (by decide) (by decide) (by decide) EvOK.m (fun Γ3 σ3 w3 aw3 zw3 => ?_)
  have aw1 := w3.sh aw1
  have zw1 := zw1.nw w3 (by omega) (by first | exact no0 | exact Is.no (by omega))
  have fw2 := w3.r (by omega) (by first | exact no0 | exact Is.no (by omega)) fw2
  have hL := w3.len hL
  have hT := w3.sh hT
  have W := W.tr w3.any
  first | refine x_putR d_Signs_init_19 w_Signs_init_15 rfl (by assumption) ?_ | refine x_putN d_Signs_init_19 w_Signs_init_15 rfl (by assumption) ?_ | refine x_putQ d_Signs_init_19 w_Signs_init_15 rfl (by assumption) ?_
  generalize ew4 : wR σ3 27 1 (some 29) = σ4
  have w4 : Nw Γ3 σ3 (Is 27) 0 Γ3 σ4 := by rw [← ew4]; exact Nw.wR
  have aw1 := w4.sh aw1
  have zw1 := zw1.nw w4 (by omega) (by first | exact no0 | exact Is.no (by omega))
  have aw3 := w4.sh aw3
  have zw3 := zw3.nw w4 (by omega) (by first | exact no0 | exact Is.no (by omega))
  have fw2 : σ4.2.1 27 0 = (some 28) := by rw [← ew4, wR_j (by decide)]; exact fw2
  have hL := w4.len hL
  have hT := w4.sh hT
  have W := W.tr w4
  have fw4 : σ4.2.1 27 1 = (some 29) := by rw [← ew4]; exact wR_s
  first | refine x_aload_n d_Signs_init_22 rfl rfl ?_ | refine x_aloadN_n d_Signs_init_22 rfl rfl ?_ | refine x_aloadE_n d_Signs_init_22 rfl rfl ?_ | refine x_aloadO_n d_Signs_init_22 rfl rfl ?_
  refine x_bipush (v := 40) d_Signs_init_23 (by decide) ?_
  refine Wq.bud (bc := 2 + 1) (bs := 80 + 40) (by omega) (by omega) ?_
  refine x_newaK (k := 30) (t := 1) (N := 40) (bc := 2) (bs := 80) (by omega) d_Signs_init_25 rfl (by decide) ac_int (by decide) (by decide) (by decide) EvOK.m (fun Γ5 σ5 w5 aw5 zw5 => ?_)
  have aw1 := w5.sh aw1
  have zw1 := zw1.nw w5 (by omega) (by first | exact no0 | exact Is.no (by omega))
  have aw3 := w5.sh aw3
  have zw3 := zw3.nw w5 (by omega) (by first | exact no0 | exact Is.no (by omega))
  have fw2 := w5.r (by omega) (by first | exact no0 | exact Is.no (by omega)) fw2
  have fw4 := w5.r (by omega) (by first | exact no0 | exact Is.no (by omega)) fw4
  have hL := w5.len hL
  have hT := w5.sh hT
  have W := W.tr w5.any
  first | refine x_putR d_Signs_init_27 w_Signs_init_19 rfl (by assumption) ?_ | refine x_putN d_Signs_init_27 w_Signs_init_19 rfl (by assumption) ?_ | refine x_putQ d_Signs_init_27 w_Signs_init_19 rfl (by assumption) ?_
  generalize ew6 : wR σ5 27 2 (some 30) = σ6
  have w6 : Nw Γ5 σ5 (Is 27) 0 Γ5 σ6 := by rw [← ew6]; exact Nw.wR
  have aw1 := w6.sh aw1
  have zw1 := zw1.nw w6 (by omega) (by first | exact no0 | exact Is.no (by omega))
  have aw3 := w6.sh aw3
  have zw3 := zw3.nw w6 (by omega) (by first | exact no0 | exact Is.no (by omega))
  have aw5 := w6.sh aw5
  have zw5 := zw5.nw w6 (by omega) (by first | exact no0 | exact Is.no (by omega))
  have fw2 : σ6.2.1 27 0 = (some 28) := by rw [← ew6, wR_j (by decide)]; exact fw2
  have fw4 : σ6.2.1 27 1 = (some 29) := by rw [← ew6, wR_j (by decide)]; exact fw4
  have hL := w6.len hL
  have hT := w6.sh hT
  have W := W.tr w6
  have fw6 : σ6.2.1 27 2 = (some 30) := by rw [← ew6]; exact wR_s
  first | refine x_aload_n d_Signs_init_30 rfl rfl ?_ | refine x_aloadN_n d_Signs_init_30 rfl rfl ?_ | refine x_aloadE_n d_Signs_init_30 rfl rfl ?_ | refine x_aloadO_n d_Signs_init_30 rfl rfl ?_
  refine x_bipush (v := 40) d_Signs_init_31 (by decide) ?_
  refine Wq.bud (bc := 1 + 1) (bs := 40 + 40) (by omega) (by omega) ?_
  refine x_newaK (k := 31) (t := 1) (N := 40) (bc := 1) (bs := 40) (by omega) d_Signs_init_33 rfl (by decide) ac_int (by decide) (by decide) (by decide) EvOK.m (fun Γ7 σ7 w7 aw7 zw7 => ?_)
  have aw1 := w7.sh aw1
  have zw1 := zw1.nw w7 (by omega) (by first | exact no0 | exact Is.no (by omega))
  have aw3 := w7.sh aw3
  have zw3 := zw3.nw w7 (by omega) (by first | exact no0 | exact Is.no (by omega))
  have aw5 := w7.sh aw5
  have zw5 := zw5.nw w7 (by omega) (by first | exact no0 | exact Is.no (by omega))
  have fw2 := w7.r (by omega) (by first | exact no0 | exact Is.no (by omega)) fw2
  have fw4 := w7.r (by omega) (by first | exact no0 | exact Is.no (by omega)) fw4
  have fw6 := w7.r (by omega) (by first | exact no0 | exact Is.no (by omega)) fw6
  have hL := w7.len hL
  have hT := w7.sh hT
  have W := W.tr w7.any
  first | refine x_putR d_Signs_init_35 w_Signs_init_22 rfl (by assumption) ?_ | refine x_putN d_Signs_init_35 w_Signs_init_22 rfl (by assumption) ?_ | refine x_putQ d_Signs_init_35 w_Signs_init_22 rfl (by assumption) ?_
  generalize ew8 : wR σ7 27 3 (some 31) = σ8
  have w8 : Nw Γ7 σ7 (Is 27) 0 Γ7 σ8 := by rw [← ew8]; exact Nw.wR
  have aw1 := w8.sh aw1
  have zw1 := zw1.nw w8 (by omega) (by first | exact no0 | exact Is.no (by omega))
  have aw3 := w8.sh aw3
  have zw3 := zw3.nw w8 (by omega) (by first | exact no0 | exact Is.no (by omega))
  have aw5 := w8.sh aw5
  have zw5 := zw5.nw w8 (by omega) (by first | exact no0 | exact Is.no (by omega))
  have aw7 := w8.sh aw7
  have zw7 := zw7.nw w8 (by omega) (by first | exact no0 | exact Is.no (by omega))
  have fw2 : σ8.2.1 27 0 = (some 28) := by rw [← ew8, wR_j (by decide)]; exact fw2
  have fw4 : σ8.2.1 27 1 = (some 29) := by rw [← ew8, wR_j (by decide)]; exact fw4
  have fw6 : σ8.2.1 27 2 = (some 30) := by rw [← ew8, wR_j (by decide)]; exact fw6
  have hL := w8.len hL
  have hT := w8.sh hT
  have W := W.tr w8
  have fw8 : σ8.2.1 27 3 = (some 31) := by rw [← ew8]; exact wR_s
  first | refine x_aload_n d_Signs_init_38 rfl rfl ?_ | refine x_aloadN_n d_Signs_init_38 rfl rfl ?_ | refine x_aloadE_n d_Signs_init_38 rfl rfl ?_ | refine x_aloadO_n d_Signs_init_38 rfl rfl ?_
  refine x_bipush (v := 40) d_Signs_init_39 (by decide) ?_
  refine Wq.bud (bc := 0 + 1) (bs := 0 + 40) (by omega) (by omega) ?_
  refine x_newaK (k := 32) (t := 3) (N := 40) (bc := 0) (bs := 0) (by omega) d_Signs_init_41 rfl (by decide) ac_long (by decide) (by decide) (by decide) EvOK.m (fun Γ9 σ9 w9 aw9 zw9 => ?_)
  have aw1 := w9.sh aw1
  have zw1 := zw1.nw w9 (by omega) (by first | exact no0 | exact Is.no (by omega))
  have aw3 := w9.sh aw3
  have zw3 := zw3.nw w9 (by omega) (by first | exact no0 | exact Is.no (by omega))
  have aw5 := w9.sh aw5
  have zw5 := zw5.nw w9 (by omega) (by first | exact no0 | exact Is.no (by omega))
  have aw7 := w9.sh aw7
  have zw7 := zw7.nw w9 (by omega) (by first | exact no0 | exact Is.no (by omega))
  have fw2 := w9.r (by omega) (by first | exact no0 | exact Is.no (by omega)) fw2
  have fw4 := w9.r (by omega) (by first | exact no0 | exact Is.no (by omega)) fw4
  have fw6 := w9.r (by omega) (by first | exact no0 | exact Is.no (by omega)) fw6
  have fw8 := w9.r (by omega) (by first | exact no0 | exact Is.no (by omega)) fw8
  have hL := w9.len hL
  have hT := w9.sh hT
  have W := W.tr w9.any
  first | refine x_putR d_Signs_init_43 w_Signs_init_25 rfl (by assumption) ?_ | refine x_putN d_Signs_init_43 w_Signs_init_25 rfl (by assumption) ?_ | refine x_putQ d_Signs_init_43 w_Signs_init_25 rfl (by assumption) ?_
  generalize ew10 : wR σ9 27 4 (some 32) = σ10
  have w10 : Nw Γ9 σ9 (Is 27) 0 Γ9 σ10 := by rw [← ew10]; exact Nw.wR
  have aw1 := w10.sh aw1
  have zw1 := zw1.nw w10 (by omega) (by first | exact no0 | exact Is.no (by omega))
  have aw3 := w10.sh aw3
  have zw3 := zw3.nw w10 (by omega) (by first | exact no0 | exact Is.no (by omega))
  have aw5 := w10.sh aw5
  have zw5 := zw5.nw w10 (by omega) (by first | exact no0 | exact Is.no (by omega))
  have aw7 := w10.sh aw7
  have zw7 := zw7.nw w10 (by omega) (by first | exact no0 | exact Is.no (by omega))
  have aw9 := w10.sh aw9
  have zw9 := zw9.nw w10 (by omega) (by first | exact no0 | exact Is.no (by omega))
  have fw2 : σ10.2.1 27 0 = (some 28) := by rw [← ew10, wR_j (by decide)]; exact fw2
  have fw4 : σ10.2.1 27 1 = (some 29) := by rw [← ew10, wR_j (by decide)]; exact fw4
  have fw6 : σ10.2.1 27 2 = (some 30) := by rw [← ew10, wR_j (by decide)]; exact fw6
  have fw8 : σ10.2.1 27 3 = (some 31) := by rw [← ew10, wR_j (by decide)]; exact fw8
  have hL := w10.len hL
  have hT := w10.sh hT
  have W := W.tr w10
  have fw10 : σ10.2.1 27 4 = (some 32) := by rw [← ew10]; exact wR_s
  refine x_iconst (v := 0) d_Signs_init_46 (by decide) ?_
  refine x_istore_n d_Signs_init_47 rfl rfl ?_
  have ha1 := aw1
  have ha2 := aw3
  have ha3 := aw5
  have ha4 := aw7
  have ha5 := aw9
  have lp : ∀ (f i : Nat) (τ : Mem), i ≤ 6 → 6 < i + f → Nw Γ9 σ10 (Is 28) 0 Γ9 τ → τ.2.1 27 0 = some 28 → τ.2.1 27 1 = some 29 → τ.2.1 27 2 = some 30 → τ.2.1 27 3 = some 31 → τ.2.1 27 4 = some 32 → (∀ j, j < 401 → τ.1 28 j = ptc i j) → (∀ j, τ.1 29 j = 0) → Wq G M_Signs_init (Em G (d + 1) 5 922 Q) 0 0 48 [some (rf G 27), some (.int (nI i))] [] [] Γ9 τ := by
    intro f
    induction f with
    | zero => intro i τ hi hf; omega
    | succ f ih =>
    intro i τ hi hf wl b0 b1 b2 b3 b4 h28 h29
    refine x_iload_n d_Signs_init_48 rfl rfl ?_
    refine x_bipush (v := 6) d_Signs_init_49 (by decide) ?_
    refine x_icmp_ge (tgt := 74) d_Signs_init_51 (by decide) (fun c51 => ?_) (fun c51 => ?_)
    · have e : i = 6 := by have := (nI_leI (by omega) (by omega)).mp (show nI 6 ≤ nI i from c51); omega
      subst e
      exact x_return d_Signs_init_74 rfl (hQ _ _ (W.late wl (by omega)) ⟨⟨hT, ha1, ha2, ha3, ha4, ha5⟩, ⟨b0, b1, b2, b3, b4⟩, h28, fun j hj => by rw [h29 j]; rfl⟩)
    · have hi6 : i < 6 := Nat.not_le.mp fun z => c51 (show nI 6 ≤ nI i from nI_le z (by omega))
      first | refine x_aload_n d_Signs_init_54 rfl rfl ?_ | refine x_aloadN_n d_Signs_init_54 rfl rfl ?_ | refine x_aloadE_n d_Signs_init_54 rfl rfl ?_ | refine x_aloadO_n d_Signs_init_54 rfl rfl ?_
      refine x_getR d_Signs_init_55 f_Signs_9 rfl (by assumption) (by assumption) ?_
      refine x_bipush (v := 100) d_Signs_init_58 (by decide) ?_
      refine x_iload_n d_Signs_init_60 rfl rfl ?_
      refine x_iadd d_Signs_init_61 ?_
      refine Wq.top (y := nI (100 + i)) (nI_add 100 i) ?_
      refine x_getsCPN d_Signs_init_62 (tb1_in (i := 80) rfl) (fun a0 hcp => ?_)
      refine x_iload_n d_Signs_init_65 rfl rfl ?_
      refine x_cpald d_Signs_init_66 hcp (vp_in_nI (show i < 6 by omega) (by decide)) ?_
      rw [nI_clamp (show i < 2 ^ 31 by omega)]
      refine x_iast d_Signs_init_67 (by assumption) ((vp_in_nI (show 100 + i < 401 by omega) (by decide))) ?_
      rw [nI_clamp (show 100 + i < 2 ^ 31 by omega)]
      refine x_iinc (v := nI (i + 1)) d_Signs_init_68 rfl (nI_1 i) rfl ?_
      refine x_goto (tgt := 48) d_Signs_init_71 (by decide) ?_
      exact Wq.fg (ih (i + 1) _ (by omega) (by omega) (wl.tr Nw.wI) b0 b1 b2 b3 b4 (fun j hj => by
        by_cases e : j = 100 + i
        · rw [e, wI_s]; unfold ptc; rw [if_pos ⟨by omega, by omega⟩, Nat.add_sub_cancel_left]
        · rw [wI_j e, h28 j hj]; unfold ptc; by_cases e2 : 100 ≤ j ∧ j < 100 + i
          · rw [if_pos e2, if_pos ⟨e2.1, by omega⟩]
          · rw [if_neg e2, if_neg (fun z => by omega)]) (fun j => by rw [wI_o (by decide)]; exact h29 j)) lsub_rf
  exact Wq.fg (lp 7 0 _ (by omega) (by omega) Nw.rf fw2 fw4 fw6 fw8 fw10 (fun j hj => by rw [zw1.1 j]; unfold ptc; rw [if_neg (fun z => by omega)]) (fun j => zw3.1 j)) ⟨rfl, by rw [nI_0], trivial⟩
