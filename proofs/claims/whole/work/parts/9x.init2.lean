/-! the constructors of the class, 2 -/
theorem isNd.nw {Γ Γ' : List Sh} {σ σ' : Mem} {F : Nat → Prop} {m n : Nat} {x : ND} (h : isNd Γ σ n x) (w : Nw Γ σ F m Γ' σ') (h0 : ∀ a, inN n a → ¬ F a) : isNd Γ' σ' n x := by
  have hl := gLt h.2.2.2.2.2.1
  exact (h.P w.2.2 (fun a h1 => w.no (by unfold inN at h1; omega) (h0 a h1))).up w.1
theorem isRun.nw {Γ Γ' : List Sh} {σ σ' : Mem} {F : Nat → Prop} {n m : Nat} {y : List Int32} {e : Int32} (h : isRun Γ σ y e m) (w : Nw Γ σ F n Γ' σ') (h0 : ∀ a, 386 ≤ a → a ≤ 390 → ¬ F a) : isRun Γ' σ' y e m := by
  have hl : 390 < Γ.length := by
    obtain ⟨ra, rb, a1, a2, a3, a4, a5, a6, a7, ⟨y2, a8⟩, a9⟩ := h
    have h1 := gLt a7.2.1
    have h2 := gLt a8.2.1
    unfold swp at a4
    omega
  exact (h.P w.2.2 (fun a h1 => by unfold inR at h1; exact w.no (by omega) (h0 a (by omega) (by omega)))).up w.1
def x0 : ND := (fun _ => 0, fun _ => none, [], [])
def T0 : TS := (0, 8, false, fun _ => x0)
set_option maxRecDepth 10000 in
set_option maxHeartbeats 1000000 in
theorem c_Program_init_4 {G : Ctx} {d : Nat} {Γ : List Sh} {σ : Mem} {Q : Option Value → List Sh → Mem → Prop}  (hT : Γ[33]? = some (0, 4)) (hL : Γ.length = 34) (hQ : ∀ Γ' σ', Nw Γ σ (Is 33) 0 Γ' σ' → (σ'.2.1 33 1 = some 27 ∧ σ'.2.1 33 2 = some 22) → Q none Γ' σ') : Ct G M_Program_init (d + 1) 0 0 [rf G 33, rf G 27, rf G 22] Γ σ Q := by
  refine Ct.of (lv := [some (rf G 33), some (rf G 27), some (rf G 22)]) (ll := []) rfl rfl (EN.cat (n := 0) ⟨rfl, rfl, rfl, trivial⟩ (Nat.le_of_ble_eq_true rfl)) ?_
  have W : Nw Γ σ (Is 33) 0 Γ σ := Nw.rf
  first | refine x_aload_n d_Program_init_0 rfl rfl ?_ | refine x_aloadN_n d_Program_init_0 rfl rfl ?_ | refine x_aloadE_n d_Program_init_0 rfl rfl ?_ | refine x_aloadO_n d_Program_init_0 rfl rfl ?_
  refine x_objInit d_Program_init_1 l_Program_3 v_objInit k_objInit RoomL.m (Nat.le_of_ble_eq_true rfl) ?_
  first | refine x_aload_n d_Program_init_4 rfl rfl ?_ | refine x_aloadN_n d_Program_init_4 rfl rfl ?_ | refine x_aloadE_n d_Program_init_4 rfl rfl ?_ | refine x_aloadO_n d_Program_init_4 rfl rfl ?_
  first | refine x_aload_n d_Program_init_5 rfl rfl ?_ | refine x_aloadN_n d_Program_init_5 rfl rfl ?_ | refine x_aloadE_n d_Program_init_5 rfl rfl ?_ | refine x_aloadO_n d_Program_init_5 rfl rfl ?_
  first | refine x_putR d_Program_init_6 w_Program_init_9_4 rfl (by assumption) ?_ | refine x_putN d_Program_init_6 w_Program_init_9_4 rfl (by assumption) ?_ | refine x_putQ d_Program_init_6 w_Program_init_9_4 rfl (by assumption) ?_
  generalize ew1 : wR σ 33 1 (some 27) = σ1
  have w1 : Nw Γ σ (Is 33) 0 Γ σ1 := by rw [← ew1]; exact Nw.wR
  have hL := w1.len hL
  have hT := w1.sh hT
  have W := W.tr w1
  have fw1 : σ1.2.1 33 1 = (some 27) := by rw [← ew1]; exact wR_s
  first | refine x_aload_n d_Program_init_9 rfl rfl ?_ | refine x_aloadN_n d_Program_init_9 rfl rfl ?_ | refine x_aloadE_n d_Program_init_9 rfl rfl ?_ | refine x_aloadO_n d_Program_init_9 rfl rfl ?_
  first | refine x_aload_n d_Program_init_10 rfl rfl ?_ | refine x_aloadN_n d_Program_init_10 rfl rfl ?_ | refine x_aloadE_n d_Program_init_10 rfl rfl ?_ | refine x_aloadO_n d_Program_init_10 rfl rfl ?_
  first | refine x_putR d_Program_init_11 w_Program_init_15_4 rfl (by assumption) ?_ | refine x_putN d_Program_init_11 w_Program_init_15_4 rfl (by assumption) ?_ | refine x_putQ d_Program_init_11 w_Program_init_15_4 rfl (by assumption) ?_
  generalize ew2 : wR σ1 33 2 (some 22) = σ2
  have w2 : Nw Γ σ1 (Is 33) 0 Γ σ2 := by rw [← ew2]; exact Nw.wR
  have fw1 : σ2.2.1 33 1 = (some 27) := by rw [← ew2, wR_j (by decide)]; exact fw1
  have hL := w2.len hL
  have hT := w2.sh hT
  have W := W.tr w2
  have fw2 : σ2.2.1 33 2 = (some 22) := by rw [← ew2]; exact wR_s
  exact x_return d_Program_init_14 rfl (hQ _ _ W (⟨fw1, fw2⟩))
set_option maxRecDepth 10000 in
set_option maxHeartbeats 1000000 in
theorem c_Program_init_9 {G : Ctx} {d : Nat} {Γ : List Sh} {σ : Mem} {Q : Option Value → List Sh → Mem → Prop}  (hT : Γ[385]? = some (0, 9)) (hL : Γ.length = 386) (hQ : ∀ Γ' σ', Nw Γ σ (Is 385) 0 Γ' σ' → (σ'.2.1 385 1 = some 27 ∧ σ'.2.1 385 2 = some 22) → Q none Γ' σ') : Ct G M_Program_init (d + 1) 0 0 [rf G 385, rf G 27, rf G 22] Γ σ Q := by
  refine Ct.of (lv := [some (rf G 385), some (rf G 27), some (rf G 22)]) (ll := []) rfl rfl (EN.cat (n := 0) ⟨rfl, rfl, rfl, trivial⟩ (Nat.le_of_ble_eq_true rfl)) ?_
  have W : Nw Γ σ (Is 385) 0 Γ σ := Nw.rf
  first | refine x_aload_n d_Program_init_0 rfl rfl ?_ | refine x_aloadN_n d_Program_init_0 rfl rfl ?_ | refine x_aloadE_n d_Program_init_0 rfl rfl ?_ | refine x_aloadO_n d_Program_init_0 rfl rfl ?_
  refine x_objInit d_Program_init_1 l_Program_3 v_objInit k_objInit RoomL.m (Nat.le_of_ble_eq_true rfl) ?_
  first | refine x_aload_n d_Program_init_4 rfl rfl ?_ | refine x_aloadN_n d_Program_init_4 rfl rfl ?_ | refine x_aloadE_n d_Program_init_4 rfl rfl ?_ | refine x_aloadO_n d_Program_init_4 rfl rfl ?_
  first | refine x_aload_n d_Program_init_5 rfl rfl ?_ | refine x_aloadN_n d_Program_init_5 rfl rfl ?_ | refine x_aloadE_n d_Program_init_5 rfl rfl ?_ | refine x_aloadO_n d_Program_init_5 rfl rfl ?_
  first | refine x_putR d_Program_init_6 w_Program_init_9_9 rfl (by assumption) ?_ | refine x_putN d_Program_init_6 w_Program_init_9_9 rfl (by assumption) ?_ | refine x_putQ d_Program_init_6 w_Program_init_9_9 rfl (by assumption) ?_
  generalize ew1 : wR σ 385 1 (some 27) = σ1
  have w1 : Nw Γ σ (Is 385) 0 Γ σ1 := by rw [← ew1]; exact Nw.wR
  have hL := w1.len hL
  have hT := w1.sh hT
  have W := W.tr w1
  have fw1 : σ1.2.1 385 1 = (some 27) := by rw [← ew1]; exact wR_s
  first | refine x_aload_n d_Program_init_9 rfl rfl ?_ | refine x_aloadN_n d_Program_init_9 rfl rfl ?_ | refine x_aloadE_n d_Program_init_9 rfl rfl ?_ | refine x_aloadO_n d_Program_init_9 rfl rfl ?_
  first | refine x_aload_n d_Program_init_10 rfl rfl ?_ | refine x_aloadN_n d_Program_init_10 rfl rfl ?_ | refine x_aloadE_n d_Program_init_10 rfl rfl ?_ | refine x_aloadO_n d_Program_init_10 rfl rfl ?_
  first | refine x_putR d_Program_init_11 w_Program_init_15_9 rfl (by assumption) ?_ | refine x_putN d_Program_init_11 w_Program_init_15_9 rfl (by assumption) ?_ | refine x_putQ d_Program_init_11 w_Program_init_15_9 rfl (by assumption) ?_
  generalize ew2 : wR σ1 385 2 (some 22) = σ2
  have w2 : Nw Γ σ1 (Is 385) 0 Γ σ2 := by rw [← ew2]; exact Nw.wR
  have fw1 : σ2.2.1 385 1 = (some 27) := by rw [← ew2, wR_j (by decide)]; exact fw1
  have hL := w2.len hL
  have hT := w2.sh hT
  have W := W.tr w2
  have fw2 : σ2.2.1 385 2 = (some 22) := by rw [← ew2]; exact wR_s
  exact x_return d_Program_init_14 rfl (hQ _ _ W (⟨fw1, fw2⟩))
set_option maxRecDepth 10000 in
set_option maxHeartbeats 1000000 in
theorem c_Node_init {G : Ctx} {d : Nat} {Γ : List Sh} {σ : Mem} {Q : Option Value → List Sh → Mem → Prop} {n : Nat} (hT : Γ[133 + 5 * n]? = some (0, 6)) (hL : Γ.length = 133 + 5 * n + 1) (hZ : nil0 σ (133 + 5 * n)) (hQ : ∀ Γ' σ', Nw Γ σ (Is (133 + 5 * n)) 4 Γ' σ' → isNd Γ' σ' n x0 → Q none Γ' σ') : Ct G M_Node_init (d + 2) 4 146 [rf G (133 + 5 * n), .int (nI n)] Γ σ Q := by
  refine Ct.of (lv := [some (rf G (133 + 5 * n)), some (.int (nI n))]) (ll := []) rfl rfl (EN.cat (n := 0) ⟨rfl, rfl, trivial⟩ (Nat.le_of_ble_eq_true rfl)) ?_
  have tz : ∀ j, True → σ.1 (133 + 5 * n) j = 0 := fun j _ => hZ.1 j
  have tn : ∀ j, True → σ.2.1 (133 + 5 * n) j = none := fun j _ => hZ.2.1 j
  have W : Nw Γ σ (Is ((133 + 5 * n))) 0 Γ σ := Nw.rf
  first | refine x_aload_n d_Node_init_0 rfl rfl ?_ | refine x_aloadN_n d_Node_init_0 rfl rfl ?_ | refine x_aloadE_n d_Node_init_0 rfl rfl ?_ | refine x_aloadO_n d_Node_init_0 rfl rfl ?_
  refine x_objInit d_Node_init_1 l_Node_3 v_objInit k_objInit RoomL.m (Nat.le_of_ble_eq_true rfl) ?_
  first | refine x_aload_n d_Node_init_4 rfl rfl ?_ | refine x_aloadN_n d_Node_init_4 rfl rfl ?_ | refine x_aloadE_n d_Node_init_4 rfl rfl ?_ | refine x_aloadO_n d_Node_init_4 rfl rfl ?_
  refine Wq.bud (bc := 3 + 1) (bs := 143 + 3) (by omega) (by omega) ?_
  refine x_newK (k := 133 + 5 * n + 1) (bc := 3) (bs := 143) (by omega) d_Node_init_5 kc_Row cl_Node_9 ins_Row ini_Row (by decide +kernel) EvOK.m (fun Γ1 σ1 w1 aw1 zw1 => ?_)
  have tz : ∀ j, (True) → σ1.1 (133 + 5 * n) j = 0 := fun j hj => w1.i (by omega) (by first | exact no0 | exact Is.no (by omega)) (tz j hj)
  have tn : ∀ j, (True) → σ1.2.1 (133 + 5 * n) j = none := fun j hj => w1.r (by omega) (by first | exact no0 | exact Is.no (by omega)) (tn j hj)
  have hL := w1.len hL
  have hT := w1.sh hT
  have W := W.tr w1.any
  refine x_dup d_Node_init_8 rfl ?_
  refine x_bipush (v := 40) d_Node_init_9 (by decide) ?_
  refine Wq.bud (bc := 2 + 1) (bs := 103 + 40) (by omega) (by omega) ?_
  refine x_callI1 (mc := 1) (ms := 40) (bc := 2) (bs := 103) d_Node_init_11 k_Row_init rfl l_Node_11 v_Row_init rfl RoomE.m (Nat.le_of_ble_eq_true rfl) (c_Row_init (n := 40) aw1 hL (by omega) (fun Γ2 σ2 w2 pw2 => ?_))
  have aw1 := w2.sh aw1
  have tz : ∀ j, (True) → σ2.1 (133 + 5 * n) j = 0 := fun j hj => w2.i (by omega) (by first | exact no0 | exact Is.no (by omega)) (tz j hj)
  have tn : ∀ j, (True) → σ2.2.1 (133 + 5 * n) j = none := fun j hj => w2.r (by omega) (by first | exact no0 | exact Is.no (by omega)) (tn j hj)
  have hL := w2.len hL
  have hT := w2.sh hT
  have W := W.lateN w2 (by omega)
  first | refine x_putR d_Node_init_14 w_Node_init_14 rfl (by assumption) ?_ | refine x_putN d_Node_init_14 w_Node_init_14 rfl (by assumption) ?_ | refine x_putQ d_Node_init_14 w_Node_init_14 rfl (by assumption) ?_
  generalize ew3 : wR σ2 (133 + 5 * n) 1 (some (133 + 5 * n + 1)) = σ3
  have w3 : Nw Γ2 σ2 (Is ((133 + 5 * n))) 0 Γ2 σ3 := by rw [← ew3]; exact Nw.wR
  have aw1 := w3.sh aw1
  have pw2 := pw2.nw w3 (by first | exact no0 | exact Is.no (by omega)) (by first | exact no0 | exact Is.no (by omega))
  have tz : ∀ j, (True) → σ3.1 (133 + 5 * n) j = 0 := fun j hj => by rw [← ew3]; exact tz j (by first | trivial | omega)
  have tn : ∀ j, (j ≠ 1) → σ3.2.1 (133 + 5 * n) j = none := fun j hj => by rw [← ew3, wR_j (by omega)]; exact tn j (by first | trivial | omega)
  have hL := w3.len hL
  have hT := w3.sh hT
  have W := W.tr w3
  have fw3 : σ3.2.1 (133 + 5 * n) 1 = (some (133 + 5 * n + 1)) := by rw [← ew3]; exact wR_s
  first | refine x_aload_n d_Node_init_17 rfl rfl ?_ | refine x_aloadN_n d_Node_init_17 rfl rfl ?_ | refine x_aloadE_n d_Node_init_17 rfl rfl ?_ | refine x_aloadO_n d_Node_init_17 rfl rfl ?_
  refine Wq.bud (bc := 1 + 1) (bs := 100 + 3) (by omega) (by omega) ?_
  refine x_newK (k := 133 + 5 * n + 3) (bc := 1) (bs := 100) (by omega) d_Node_init_18 kc_Row cl_Node_9 ins_Row ini_Row (by decide +kernel) EvOK.m (fun Γ4 σ4 w4 aw4 zw4 => ?_)
  have aw1 := w4.sh aw1
  have pw2 := pw2.nw w4 (by first | exact no0 | exact Is.no (by omega)) (by first | exact no0 | exact Is.no (by omega))
  have tz : ∀ j, (True) → σ4.1 (133 + 5 * n) j = 0 := fun j hj => w4.i (by omega) (by first | exact no0 | exact Is.no (by omega)) (tz j hj)
  have tn : ∀ j, (j ≠ 1) → σ4.2.1 (133 + 5 * n) j = none := fun j hj => w4.r (by omega) (by first | exact no0 | exact Is.no (by omega)) (tn j hj)
  have fw3 := w4.r (by omega) (by first | exact no0 | exact Is.no (by omega)) fw3
  have hL := w4.len hL
  have hT := w4.sh hT
  have W := W.tr w4.any
  refine x_dup d_Node_init_21 rfl ?_
  refine x_bipush (v := 100) d_Node_init_22 (by decide) ?_
  refine Wq.bud (bc := 0 + 1) (bs := 0 + 100) (by omega) (by omega) ?_
  refine x_callI1 (mc := 1) (ms := 100) (bc := 0) (bs := 0) d_Node_init_24 k_Row_init rfl l_Node_11 v_Row_init rfl RoomE.m (Nat.le_of_ble_eq_true rfl) (c_Row_init (n := 100) aw4 hL (by omega) (fun Γ5 σ5 w5 pw5 => ?_))
  have aw1 := w5.sh aw1
  have pw2 := pw2.nw w5 (by first | exact no0 | exact Is.no (by omega)) (by first | exact no0 | exact Is.no (by omega))
  have aw4 := w5.sh aw4
  have tz : ∀ j, (True) → σ5.1 (133 + 5 * n) j = 0 := fun j hj => w5.i (by omega) (by first | exact no0 | exact Is.no (by omega)) (tz j hj)
  have tn : ∀ j, (j ≠ 1) → σ5.2.1 (133 + 5 * n) j = none := fun j hj => w5.r (by omega) (by first | exact no0 | exact Is.no (by omega)) (tn j hj)
  have fw3 := w5.r (by omega) (by first | exact no0 | exact Is.no (by omega)) fw3
  have hL := w5.len hL
  have hT := w5.sh hT
  have W := W.lateN w5 (by omega)
  first | refine x_putR d_Node_init_27 w_Node_init_20 rfl (by assumption) ?_ | refine x_putN d_Node_init_27 w_Node_init_20 rfl (by assumption) ?_ | refine x_putQ d_Node_init_27 w_Node_init_20 rfl (by assumption) ?_
  generalize ew6 : wR σ5 (133 + 5 * n) 2 (some (133 + 5 * n + 3)) = σ6
  have w6 : Nw Γ5 σ5 (Is ((133 + 5 * n))) 0 Γ5 σ6 := by rw [← ew6]; exact Nw.wR
  have aw1 := w6.sh aw1
  have pw2 := pw2.nw w6 (by first | exact no0 | exact Is.no (by omega)) (by first | exact no0 | exact Is.no (by omega))
  have aw4 := w6.sh aw4
  have pw5 := pw5.nw w6 (by first | exact no0 | exact Is.no (by omega)) (by first | exact no0 | exact Is.no (by omega))
  have tz : ∀ j, (True) → σ6.1 (133 + 5 * n) j = 0 := fun j hj => by rw [← ew6]; exact tz j (by first | trivial | omega)
  have tn : ∀ j, (j ≠ 1 ∧ j ≠ 2) → σ6.2.1 (133 + 5 * n) j = none := fun j hj => by rw [← ew6, wR_j (by omega)]; exact tn j (by first | trivial | omega)
  have fw3 : σ6.2.1 (133 + 5 * n) 1 = (some (133 + 5 * n + 1)) := by rw [← ew6, wR_j (by decide)]; exact fw3
  have hL := w6.len hL
  have hT := w6.sh hT
  have W := W.tr w6
  have fw6 : σ6.2.1 (133 + 5 * n) 2 = (some (133 + 5 * n + 3)) := by rw [← ew6]; exact wR_s
  first | refine x_aload_n d_Node_init_30 rfl rfl ?_ | refine x_aloadN_n d_Node_init_30 rfl rfl ?_ | refine x_aloadE_n d_Node_init_30 rfl rfl ?_ | refine x_aloadO_n d_Node_init_30 rfl rfl ?_
  refine x_iload_n d_Node_init_31 rfl rfl ?_
  refine x_putI d_Node_init_32 w_Node_init_23 rfl (by first | rfl | decide) (by first | rfl | decide) (by assumption) ?_
  generalize ew7 : wI σ6 (133 + 5 * n) 0 (nI n) = σ7
  have w7 : Nw Γ5 σ6 (Is ((133 + 5 * n))) 0 Γ5 σ7 := by rw [← ew7]; exact Nw.wI
  have aw1 := w7.sh aw1
  have pw2 := pw2.nw w7 (by first | exact no0 | exact Is.no (by omega)) (by first | exact no0 | exact Is.no (by omega))
  have aw4 := w7.sh aw4
  have pw5 := pw5.nw w7 (by first | exact no0 | exact Is.no (by omega)) (by first | exact no0 | exact Is.no (by omega))
  have tz : ∀ j, (j ≠ 0) → σ7.1 (133 + 5 * n) j = 0 := fun j hj => by rw [← ew7, wI_j (by omega)]; exact tz j (by first | trivial | omega)
  have tn : ∀ j, (j ≠ 1 ∧ j ≠ 2) → σ7.2.1 (133 + 5 * n) j = none := fun j hj => by rw [← ew7]; exact tn j (by first | trivial | omega)
  have fw3 : σ7.2.1 (133 + 5 * n) 1 = (some (133 + 5 * n + 1)) := by rw [← ew7]; exact fw3
  have fw6 : σ7.2.1 (133 + 5 * n) 2 = (some (133 + 5 * n + 3)) := by rw [← ew7]; exact fw6
  have hL := w7.len hL
  have hT := w7.sh hT
  have W := W.tr w7
  have fw7 : σ7.1 (133 + 5 * n) 0 = (nI n) := by rw [← ew7]; exact wI_s
  exact x_return d_Node_init_35 rfl (hQ _ _ W (⟨hT, ⟨fw7, fun j hj => tz j (by rintro rfl; exact absurd hj (by decide))⟩, ⟨by rw [fw3]; congr 1; omega, by rw [fw6]; congr 1; omega, fun j hj => ⟨tn j ⟨by rintro rfl; exact absurd hj (by decide), by rintro rfl; exact absurd hj (by decide)⟩, lk48.n⟩⟩, by have := pw2; rw [show 133 + 5 * n + 1 = 134 + 5 * n by omega] at this; exact this, by have := pw5; rw [show 133 + 5 * n + 3 = 136 + 5 * n by omega] at this; exact this⟩))
set_option maxRecDepth 10000 in
set_option maxHeartbeats 1000000 in
theorem c_SourceProgram_init {G : Ctx} {d : Nat} {Γ : List Sh} {σ : Mem} {Q : Option Value → List Sh → Mem → Prop} (hT : Γ[33]? = some (0, 4)) (hL : Γ.length = 34) (hQ : ∀ Γ' σ', Nw Γ σ (Is 33) 97 Γ' σ' → isSrc Γ' σ' 33 27 22 (fun _ => []) → Q none Γ' σ') : Ct G M_SourceProgram_init (d + 2) 97 1344 [rf G 33, rf G 27, rf G 22] Γ σ Q := by
  refine Ct.of (lv := [some (rf G 33), some (rf G 27), some (rf G 22), none]) (ll := []) rfl rfl (EN.cat (n := 1) ⟨rfl, rfl, rfl, trivial⟩ (Nat.le_of_ble_eq_true rfl)) ?_
  have hend : ∀ (Γ1 : List Sh) (σ1 : Mem), Γ1.length = 35 + 2 * 48 → Γ1[33]? = some (0, 4) → Γ1[34]? = some (4, 48) → (σ1.2.1 33 0 = some 34 ∧ σ1.2.1 33 1 = some 27 ∧ σ1.2.1 33 2 = some 22) → (∀ u, u < 48 → σ1.2.1 34 u = some (35 + 2 * u) ∧ isRow Γ1 σ1 (35 + 2 * u) 24 []) → Nw Γ σ (Is 33) (1 + 2 * 48) Γ1 σ1 → Wq G M_SourceProgram_init (Em G (d + 2) 97 1344 Q) 0 0 47 [some (rf G 33), some (rf G 27), some (rf G 22), some (.int (nI 48))] [] [] Γ1 σ1 := fun Γ1 σ1 hL hT ha hf hr W => x_return d_SourceProgram_init_47 rfl (hQ _ _ W ⟨hT, ha, hf.1, hf.2.1, hf.2.2, fun i hi => ⟨(hr i hi).1, (hr i hi).2, by show 0 ≤ 24; omega⟩⟩)
  have lp : ∀ (r i : Nat) (Γ1 : List Sh) (σ1 : Mem), i + r = 48 → Γ1.length = 35 + 2 * i → Γ1[33]? = some (0, 4) → Γ1[34]? = some (4, 48) → (σ1.2.1 33 0 = some 34 ∧ σ1.2.1 33 1 = some 27 ∧ σ1.2.1 33 2 = some 22) → (∀ u, u < i → σ1.2.1 34 u = some (35 + 2 * u) ∧ isRow Γ1 σ1 (35 + 2 * u) 24 []) → Nw Γ σ (Is 33) (1 + 2 * i) Γ1 σ1 → Wq G M_SourceProgram_init (Em G (d + 2) 97 1344 Q) (2 * r + 0) (27 * r + 0) 17 [some (rf G 33), some (rf G 27), some (rf G 22), some (.int (nI i))] [] [] Γ1 σ1 := by
    intro r
    induction r with
    | zero =>
      intro i Γ1 σ1 hi hL hT ha hf hr W
      have hf0 := hf.1
      refine x_iload_n d_SourceProgram_init_17 rfl rfl ?_
      first | refine x_aload_n d_SourceProgram_init_18 rfl rfl ?_ | refine x_aloadN_n d_SourceProgram_init_18 rfl rfl ?_ | refine x_aloadE_n d_SourceProgram_init_18 rfl rfl ?_ | refine x_aloadO_n d_SourceProgram_init_18 rfl rfl ?_
      refine x_getR d_SourceProgram_init_19 f_SourceProgram_11 rfl (by assumption) (by assumption) ?_
      refine x_alen d_SourceProgram_init_22 (by assumption) (by decide) rfl ?_
      refine x_icmp_ge (tgt := 47) d_SourceProgram_init_23 (by decide) (fun c23 => ?_) (fun c23 => ?_)
      · refine Wq.bud (bc := 0) (bs := 0) (by omega) (by omega) ?_
        have e : i = 48 := by omega
        subst e
        exact hend Γ1 σ1 (by omega) hT ha hf hr W
      · exact absurd (show nI 48 ≤ nI i from nI_le (by omega) (by omega)) c23
    | succ r ih =>
      intro i Γ1 σ1 hi hL hT ha hf hr W
      have hf0 := hf.1
      refine x_iload_n d_SourceProgram_init_17 rfl rfl ?_
      first | refine x_aload_n d_SourceProgram_init_18 rfl rfl ?_ | refine x_aloadN_n d_SourceProgram_init_18 rfl rfl ?_ | refine x_aloadE_n d_SourceProgram_init_18 rfl rfl ?_ | refine x_aloadO_n d_SourceProgram_init_18 rfl rfl ?_
      refine x_getR d_SourceProgram_init_19 f_SourceProgram_11 rfl (by assumption) (by assumption) ?_
      refine x_alen d_SourceProgram_init_22 (by assumption) (by decide) rfl ?_
      refine x_icmp_ge (tgt := 47) d_SourceProgram_init_23 (by decide) (fun c23 => ?_) (fun c23 => ?_)
      · exact absurd ((nI_leI (by omega) (by omega)).mp (show nI 48 ≤ nI i from c23)) (by omega)
      · first | refine x_aload_n d_SourceProgram_init_26 rfl rfl ?_ | refine x_aloadN_n d_SourceProgram_init_26 rfl rfl ?_ | refine x_aloadE_n d_SourceProgram_init_26 rfl rfl ?_ | refine x_aloadO_n d_SourceProgram_init_26 rfl rfl ?_
        refine x_getR d_SourceProgram_init_27 f_SourceProgram_11 rfl (by assumption) (by assumption) ?_
        refine x_iload_n d_SourceProgram_init_30 rfl rfl ?_
        refine Wq.bud (bc := (2 * r + 0 + 1) + 1) (bs := (27 * r + 0 + 24) + 3) (by omega) (by omega) ?_
        refine x_newK (k := 35 + 2 * i) (bc := 2 * r + 0 + 1) (bs := 27 * r + 0 + 24) hL d_SourceProgram_init_31 kc_Row cl_SourceProgram_9 ins_Row ini_Row (by decide +kernel) EvOK.m (fun Γ2 σ2 w2 a2 z2 => ?_)
        have hL2 := w2.len hL
        refine x_dup d_SourceProgram_init_34 rfl ?_
        refine x_bipush (v := 24) d_SourceProgram_init_35 (by decide) ?_
        refine x_callI1 (mc := 1) (ms := 24) (bc := 2 * r + 0) (bs := 27 * r + 0) d_SourceProgram_init_37 k_Row_init rfl l_SourceProgram_17 v_Row_init rfl RoomE.m (Nat.le_of_ble_eq_true rfl) (c_Row_init (n := 24) a2 hL2 (by omega) (fun Γ3 σ3 w3 p3 => ?_))
        have w := Nw.new w2 w3 hL
        have hT := w.sh hT
        have ha := w.sh ha
        have a3 := w3.sh a2
        refine x_aast d_SourceProgram_init_40 (by assumption) (by decide) (by assumption) rfl rfl (vp_in_nI (show i < 48 by omega) (by decide)) ?_
        rw [nI_clamp (show i < 2 ^ 31 by omega)]
        refine x_iinc (v := nI (i + 1)) d_SourceProgram_init_41 rfl (nI_1 i) rfl ?_
        refine x_goto (tgt := 17) d_SourceProgram_init_44 (by decide) ?_
        have w4 : Nw Γ3 σ3 (Is 34) 0 Γ3 (wR σ3 34 i (some (35 + 2 * i))) := Nw.wR
        refine Wq.fg (ih (i + 1) Γ3 _ (by omega) (by have := w.len hL; omega) hT ha ?_ (fun u hu => ?_) (by have := (W.tr w.any).late w4 (by omega); exact this)) lsub_rf
        · exact ⟨by rw [wR_o (by decide)]; exact w.r (by omega) no0 hf.1, by rw [wR_o (by decide)]; exact w.r (by omega) no0 hf.2.1, by rw [wR_o (by decide)]; exact w.r (by omega) no0 hf.2.2⟩
        · by_cases e : u = i
          · subst e
            exact ⟨wR_s, p3.nw w4 (Is.no (by omega)) (Is.no (by omega))⟩
          · exact ⟨by rw [wR_j e]; exact w.r (gLt (by assumption)) no0 (hr u (by omega)).1, ((hr u (by omega)).2.nw w no0 no0).nw w4 (Is.no (by omega)) (Is.no (by omega))⟩
  have W : Nw Γ σ (Is 33) 0 Γ σ := Nw.rf
  first | refine x_aload_n d_SourceProgram_init_0 rfl rfl ?_ | refine x_aloadN_n d_SourceProgram_init_0 rfl rfl ?_ | refine x_aloadE_n d_SourceProgram_init_0 rfl rfl ?_ | refine x_aloadO_n d_SourceProgram_init_0 rfl rfl ?_
  first | refine x_aload_n d_SourceProgram_init_1 rfl rfl ?_ | refine x_aloadN_n d_SourceProgram_init_1 rfl rfl ?_ | refine x_aloadE_n d_SourceProgram_init_1 rfl rfl ?_ | refine x_aloadO_n d_SourceProgram_init_1 rfl rfl ?_
  first | refine x_aload_n d_SourceProgram_init_2 rfl rfl ?_ | refine x_aloadN_n d_SourceProgram_init_2 rfl rfl ?_ | refine x_aloadE_n d_SourceProgram_init_2 rfl rfl ?_ | refine x_aloadO_n d_SourceProgram_init_2 rfl rfl ?_
  refine Wq.bud (bc := 97 + 0) (bs := 1344 + 0) (by omega) (by omega) ?_
  refine x_callI2 (mc := 0) (ms := 0) (bc := 97) (bs := 1344) d_SourceProgram_init_3 k_Program_init rfl l_SourceProgram_3 v_Program_init rfl RoomE.m (Nat.le_of_ble_eq_true rfl) (c_Program_init_4 hT hL (fun Γ1 σ1 w1 pw1 => ?_))
  have hL := w1.len hL
  have hT := w1.sh hT
  have W := W.tr w1
  have g1 := pw1.1
  have g2 := pw1.2
  first | refine x_aload_n d_SourceProgram_init_6 rfl rfl ?_ | refine x_aloadN_n d_SourceProgram_init_6 rfl rfl ?_ | refine x_aloadE_n d_SourceProgram_init_6 rfl rfl ?_ | refine x_aloadO_n d_SourceProgram_init_6 rfl rfl ?_
  refine x_bipush (v := 48) d_SourceProgram_init_7 (by decide) ?_
  refine Wq.bud (bc := 96 + 1) (bs := 1296 + 48) (by omega) (by omega) ?_
  refine x_anewK (k := 34) (t := 4) (N := 48) (bc := 96) (bs := 1296) (by omega) d_SourceProgram_init_9 cl_SourceProgram_9 rfl (by decide) ao_Row (by decide) (by decide) (by decide) EvOK.m (fun Γ2 σ2 w2 aw2 zw2 => ?_)
  have g1 := w2.r (by omega) (by first | exact no0 | exact Is.no (by omega)) g1
  have g2 := w2.r (by omega) (by first | exact no0 | exact Is.no (by omega)) g2
  have hL := w2.len hL
  have hT := w2.sh hT
  have W := W.tr w2.any
  first | refine x_putR d_SourceProgram_init_12 w_SourceProgram_init_11 rfl (by assumption) ?_ | refine x_putN d_SourceProgram_init_12 w_SourceProgram_init_11 rfl (by assumption) ?_ | refine x_putQ d_SourceProgram_init_12 w_SourceProgram_init_11 rfl (by assumption) ?_
  generalize ew3 : wR σ2 33 0 (some 34) = σ3
  have w3 : Nw Γ2 σ2 (Is 33) 0 Γ2 σ3 := by rw [← ew3]; exact Nw.wR
  have aw2 := w3.sh aw2
  have zw2 := zw2.nw w3 (by omega) (by first | exact no0 | exact Is.no (by omega))
  have g1 : σ3.2.1 33 1 = some 27 := by rw [← ew3, wR_j (by decide)]; exact g1
  have g2 : σ3.2.1 33 2 = some 22 := by rw [← ew3, wR_j (by decide)]; exact g2
  have hL := w3.len hL
  have hT := w3.sh hT
  have W := W.tr w3
  have fw3 : σ3.2.1 33 0 = (some 34) := by rw [← ew3]; exact wR_s
  refine x_iconst (v := 0) d_SourceProgram_init_15 (by decide) ?_
  refine x_istore_n d_SourceProgram_init_16 rfl rfl ?_
  exact Wq.fg (lp 48 0 _ _ (by omega) (by omega) hT aw2 ⟨fw3, g1, g2⟩ (fun u hu => absurd hu (Nat.not_lt_zero _)) W) ⟨rfl, rfl, rfl, by rw [nI_0], trivial⟩
set_option maxRecDepth 10000 in
set_option maxHeartbeats 1000000 in
theorem c_Tree_init {G : Ctx} {d : Nat} {Γ : List Sh} {σ : Mem} {Q : Option Value → List Sh → Mem → Prop} (hT : Γ[131]? = some (0, 5)) (hL : Γ.length = 132) (hQ : ∀ Γ' σ', Nw Γ σ (Is 131) 241 Γ' σ' → isTree Γ' σ' T0 → Q none Γ' σ') : Ct G M_Tree_init (d + 3) 241 7728 [rf G 131] Γ σ Q := by
  refine Ct.of (lv := [some (rf G 131), none]) (ll := []) rfl rfl (EN.cat (n := 1) ⟨rfl, trivial⟩ (Nat.le_of_ble_eq_true rfl)) ?_
  have hend : ∀ (Γ1 : List Sh) (σ1 : Mem), Γ1.length = 133 + 5 * 48 → Γ1[131]? = some (0, 5) → Γ1[132]? = some (5, 48) → (σ1.2.1 131 0 = some 132 ∧ σ1.1 131 1 = 0 ∧ σ1.1 131 2 = 8 ∧ σ1.1 131 3 = 0) → (∀ u, u < 48 → σ1.2.1 132 u = some (133 + 5 * u) ∧ isNd Γ1 σ1 u x0) → Nw Γ σ (Is 131) (1 + 5 * 48) Γ1 σ1 → Wq G M_Tree_init (Em G (d + 3) 241 7728 Q) 0 0 57 [some (rf G 131), some (.int (nI 48))] [] [] Γ1 σ1 := fun Γ1 σ1 hL hT ha hf hr W => x_return d_Tree_init_57 rfl (hQ _ _ W ⟨hT, ha, hf.1, ⟨by rw [hf.2.1]; exact nI_0.symm, by show 0 ≤ 48; omega⟩, ⟨by rw [hf.2.2.1]; rfl, by show 8 ≤ 100; omega⟩, by rw [hf.2.2.2]; rfl, hr⟩)
  have lp : ∀ (r i : Nat) (Γ1 : List Sh) (σ1 : Mem), i + r = 48 → Γ1.length = 133 + 5 * i → Γ1[131]? = some (0, 5) → Γ1[132]? = some (5, 48) → (σ1.2.1 131 0 = some 132 ∧ σ1.1 131 1 = 0 ∧ σ1.1 131 2 = 8 ∧ σ1.1 131 3 = 0) → (∀ u, u < i → σ1.2.1 132 u = some (133 + 5 * u) ∧ isNd Γ1 σ1 u x0) → Nw Γ σ (Is 131) (1 + 5 * i) Γ1 σ1 → Wq G M_Tree_init (Em G (d + 3) 241 7728 Q) (5 * r + 0) (160 * r + 0) 31 [some (rf G 131), some (.int (nI i))] [] [] Γ1 σ1 := by
    intro r
    induction r with
    | zero =>
      intro i Γ1 σ1 hi hL hT ha hf hr W
      have hf0 := hf.1
      refine x_iload_n d_Tree_init_31 rfl rfl ?_
      refine x_bipush (v := 48) d_Tree_init_32 (by decide) ?_
      refine x_icmp_ge (tgt := 57) d_Tree_init_34 (by decide) (fun c34 => ?_) (fun c34 => ?_)
      · refine Wq.bud (bc := 0) (bs := 0) (by omega) (by omega) ?_
        have e : i = 48 := by omega
        subst e
        exact hend Γ1 σ1 (by omega) hT ha hf hr W
      · exact absurd (show nI 48 ≤ nI i from nI_le (by omega) (by omega)) c34
    | succ r ih =>
      intro i Γ1 σ1 hi hL hT ha hf hr W
      have hf0 := hf.1
      refine x_iload_n d_Tree_init_31 rfl rfl ?_
      refine x_bipush (v := 48) d_Tree_init_32 (by decide) ?_
      refine x_icmp_ge (tgt := 57) d_Tree_init_34 (by decide) (fun c34 => ?_) (fun c34 => ?_)
      · exact absurd ((nI_leI (by omega) (by omega)).mp (show nI 48 ≤ nI i from c34)) (by omega)
      · first | refine x_aload_n d_Tree_init_37 rfl rfl ?_ | refine x_aloadN_n d_Tree_init_37 rfl rfl ?_ | refine x_aloadE_n d_Tree_init_37 rfl rfl ?_ | refine x_aloadO_n d_Tree_init_37 rfl rfl ?_
        refine x_getR d_Tree_init_38 f_Tree_11 rfl (by assumption) (by assumption) ?_
        refine x_iload_n d_Tree_init_41 rfl rfl ?_
        refine Wq.bud (bc := (5 * r + 0 + 4) + 1) (bs := (160 * r + 0 + 146) + 14) (by omega) (by omega) ?_
        refine x_newK (k := 133 + 5 * i) (bc := 5 * r + 0 + 4) (bs := 160 * r + 0 + 146) hL d_Tree_init_42 kc_Node cl_Tree_9 ins_Node ini_Node (by decide +kernel) EvOK.m (fun Γ2 σ2 w2 a2 z2 => ?_)
        have hL2 := w2.len hL
        refine x_dup d_Tree_init_45 rfl ?_
        refine x_iload_n d_Tree_init_46 rfl rfl ?_
        refine x_callI1 (mc := 4) (ms := 146) (bc := 5 * r + 0) (bs := 160 * r + 0) d_Tree_init_47 k_Node_init rfl l_Tree_28 v_Node_init rfl RoomE.m (Nat.le_of_ble_eq_true rfl) (c_Node_init (n := i) a2 hL2 z2 (fun Γ3 σ3 w3 p3 => ?_))
        have w := Nw.new w2 w3 hL
        have hT := w.sh hT
        have ha := w.sh ha
        have a3 := w3.sh a2
        refine x_aast d_Tree_init_50 (by assumption) (by decide) (by assumption) rfl rfl (vp_in_nI (show i < 48 by omega) (by decide)) ?_
        rw [nI_clamp (show i < 2 ^ 31 by omega)]
        refine x_iinc (v := nI (i + 1)) d_Tree_init_51 rfl (nI_1 i) rfl ?_
        refine x_goto (tgt := 31) d_Tree_init_54 (by decide) ?_
        have w4 : Nw Γ3 σ3 (Is 132) 0 Γ3 (wR σ3 132 i (some (133 + 5 * i))) := Nw.wR
        refine Wq.fg (ih (i + 1) Γ3 _ (by omega) (by have := w.len hL; omega) hT ha ?_ (fun u hu => ?_) (by have := (W.tr w.any).late w4 (by omega); exact this)) lsub_rf
        · exact ⟨by rw [wR_o (by decide)]; exact w.r (by omega) no0 hf.1, w.i (by omega) no0 hf.2.1, w.i (by omega) no0 hf.2.2.1, w.i (by omega) no0 hf.2.2.2⟩
        · by_cases e : u = i
          · subst e
            exact ⟨wR_s, p3.nw w4 (fun a h1 => Is.no (by unfold inN at h1; omega))⟩
          · exact ⟨by rw [wR_j e]; exact w.r (gLt (by assumption)) no0 (hr u (by omega)).1, ((hr u (by omega)).2.nw w (fun a _ => no0)).nw w4 (fun a h1 => Is.no (by unfold inN at h1; omega))⟩
  have W : Nw Γ σ (Is 131) 0 Γ σ := Nw.rf
  first | refine x_aload_n d_Tree_init_0 rfl rfl ?_ | refine x_aloadN_n d_Tree_init_0 rfl rfl ?_ | refine x_aloadE_n d_Tree_init_0 rfl rfl ?_ | refine x_aloadO_n d_Tree_init_0 rfl rfl ?_
  refine x_objInit d_Tree_init_1 l_Tree_3 v_objInit k_objInit RoomL.m (Nat.le_of_ble_eq_true rfl) ?_
  first | refine x_aload_n d_Tree_init_4 rfl rfl ?_ | refine x_aloadN_n d_Tree_init_4 rfl rfl ?_ | refine x_aloadE_n d_Tree_init_4 rfl rfl ?_ | refine x_aloadO_n d_Tree_init_4 rfl rfl ?_
  refine x_bipush (v := 48) d_Tree_init_5 (by decide) ?_
  refine Wq.bud (bc := 240 + 1) (bs := 7680 + 48) (by omega) (by omega) ?_
  refine x_anewK (k := 132) (t := 5) (N := 48) (bc := 240) (bs := 7680) (by omega) d_Tree_init_7 cl_Tree_9 rfl (by decide) ao_Node (by decide) (by decide) (by decide) EvOK.m (fun Γ1 σ1 w1 aw1 zw1 => ?_)
  have hL := w1.len hL
  have hT := w1.sh hT
  have W := W.tr w1.any
  first | refine x_putR d_Tree_init_10 w_Tree_init_11 rfl (by assumption) ?_ | refine x_putN d_Tree_init_10 w_Tree_init_11 rfl (by assumption) ?_ | refine x_putQ d_Tree_init_10 w_Tree_init_11 rfl (by assumption) ?_
  generalize ew2 : wR σ1 131 0 (some 132) = σ2
  have w2 : Nw Γ1 σ1 (Is 131) 0 Γ1 σ2 := by rw [← ew2]; exact Nw.wR
  have aw1 := w2.sh aw1
  have zw1 := zw1.nw w2 (by omega) (by first | exact no0 | exact Is.no (by omega))
  have hL := w2.len hL
  have hT := w2.sh hT
  have W := W.tr w2
  have fw2 : σ2.2.1 131 0 = (some 132) := by rw [← ew2]; exact wR_s
  first | refine x_aload_n d_Tree_init_13 rfl rfl ?_ | refine x_aloadN_n d_Tree_init_13 rfl rfl ?_ | refine x_aloadE_n d_Tree_init_13 rfl rfl ?_ | refine x_aloadO_n d_Tree_init_13 rfl rfl ?_
  refine x_iconst (v := 0) d_Tree_init_14 (by decide) ?_
  refine x_putI d_Tree_init_15 (w_Tree_init_17 _) rfl (by first | rfl | decide) (by first | rfl | decide) (by assumption) ?_
  generalize ew3 : wI σ2 131 1 0 = σ3
  have w3 : Nw Γ1 σ2 (Is 131) 0 Γ1 σ3 := by rw [← ew3]; exact Nw.wI
  have aw1 := w3.sh aw1
  have zw1 := zw1.nw w3 (by omega) (by first | exact no0 | exact Is.no (by omega))
  have fw2 : σ3.2.1 131 0 = (some 132) := by rw [← ew3]; exact fw2
  have hL := w3.len hL
  have hT := w3.sh hT
  have W := W.tr w3
  have fw3 : σ3.1 131 1 = 0 := by rw [← ew3]; exact wI_s
  first | refine x_aload_n d_Tree_init_18 rfl rfl ?_ | refine x_aloadN_n d_Tree_init_18 rfl rfl ?_ | refine x_aloadE_n d_Tree_init_18 rfl rfl ?_ | refine x_aloadO_n d_Tree_init_18 rfl rfl ?_
  refine x_bipush (v := 8) d_Tree_init_19 (by decide) ?_
  refine x_putI d_Tree_init_21 (w_Tree_init_21 _) rfl (by first | rfl | decide) (by first | rfl | decide) (by assumption) ?_
  generalize ew4 : wI σ3 131 2 8 = σ4
  have w4 : Nw Γ1 σ3 (Is 131) 0 Γ1 σ4 := by rw [← ew4]; exact Nw.wI
  have aw1 := w4.sh aw1
  have zw1 := zw1.nw w4 (by omega) (by first | exact no0 | exact Is.no (by omega))
  have fw2 : σ4.2.1 131 0 = (some 132) := by rw [← ew4]; exact fw2
  have fw3 : σ4.1 131 1 = 0 := by rw [← ew4, wI_j (by decide)]; exact fw3
  have hL := w4.len hL
  have hT := w4.sh hT
  have W := W.tr w4
  have fw4 : σ4.1 131 2 = 8 := by rw [← ew4]; exact wI_s
  first | refine x_aload_n d_Tree_init_24 rfl rfl ?_ | refine x_aloadN_n d_Tree_init_24 rfl rfl ?_ | refine x_aloadE_n d_Tree_init_24 rfl rfl ?_ | refine x_aloadO_n d_Tree_init_24 rfl rfl ?_
  refine x_iconst (v := 0) d_Tree_init_25 (by decide) ?_
  refine x_putI d_Tree_init_26 (w_Tree_init_24 _) rfl (by first | rfl | decide) (by first | rfl | decide) (by assumption) ?_
  generalize ew5 : wI σ4 131 3 0 = σ5
  have w5 : Nw Γ1 σ4 (Is 131) 0 Γ1 σ5 := by rw [← ew5]; exact Nw.wI
  have aw1 := w5.sh aw1
  have zw1 := zw1.nw w5 (by omega) (by first | exact no0 | exact Is.no (by omega))
  have fw2 : σ5.2.1 131 0 = (some 132) := by rw [← ew5]; exact fw2
  have fw3 : σ5.1 131 1 = 0 := by rw [← ew5, wI_j (by decide)]; exact fw3
  have fw4 : σ5.1 131 2 = 8 := by rw [← ew5, wI_j (by decide)]; exact fw4
  have hL := w5.len hL
  have hT := w5.sh hT
  have W := W.tr w5
  have fw5 : σ5.1 131 3 = 0 := by rw [← ew5]; exact wI_s
  refine x_iconst (v := 0) d_Tree_init_29 (by decide) ?_
  refine x_istore_n d_Tree_init_30 rfl rfl ?_
  exact Wq.fg (lp 48 0 _ _ (by omega) (by omega) hT aw1 ⟨fw2, fw3, fw4, fw5⟩ (fun u hu => absurd hu (Nat.not_lt_zero _)) W) ⟨rfl, by rw [nI_0], trivial⟩
set_option maxRecDepth 10000 in
set_option maxHeartbeats 1000000 in
theorem c_Generaliser_init {G : Ctx} {d : Nat} {Γ : List Sh} {σ : Mem} {Q : Option Value → List Sh → Mem → Prop}  (hT : Γ[380]? = some (0, 8)) (hL : Γ.length = 381) (hQ : ∀ Γ' σ', Nw Γ σ (Is 380) 4 Γ' σ' → isGen Γ' σ' ([], 0, -1, fun _ => 0, fun _ => 0) → Q none Γ' σ') : Ct G M_Generaliser_init (d + 2) 4 123 [rf G 380, rf G 27, rf G 131] Γ σ Q := by
  refine Ct.of (lv := [some (rf G 380), some (rf G 27), some (rf G 131)]) (ll := []) rfl rfl (EN.cat (n := 0) ⟨rfl, rfl, rfl, trivial⟩ (Nat.le_of_ble_eq_true rfl)) ?_
  have W : Nw Γ σ (Is 380) 0 Γ σ := Nw.rf
  first | refine x_aload_n d_Generaliser_init_0 rfl rfl ?_ | refine x_aloadN_n d_Generaliser_init_0 rfl rfl ?_ | refine x_aloadE_n d_Generaliser_init_0 rfl rfl ?_ | refine x_aloadO_n d_Generaliser_init_0 rfl rfl ?_
  refine x_objInit d_Generaliser_init_1 l_Generaliser_3 v_objInit k_objInit RoomL.m (Nat.le_of_ble_eq_true rfl) ?_
  first | refine x_aload_n d_Generaliser_init_4 rfl rfl ?_ | refine x_aloadN_n d_Generaliser_init_4 rfl rfl ?_ | refine x_aloadE_n d_Generaliser_init_4 rfl rfl ?_ | refine x_aloadO_n d_Generaliser_init_4 rfl rfl ?_
  refine Wq.bud (bc := 3 + 1) (bs := 120 + 3) (by omega) (by omega) ?_
  refine x_newK (k := 381) (bc := 3) (bs := 120) (by omega) d_Generaliser_init_5 kc_Row cl_Generaliser_9 ins_Row ini_Row (by decide +kernel) EvOK.m (fun Γ1 σ1 w1 aw1 zw1 => ?_)
  have hL := w1.len hL
  have hT := w1.sh hT
  have W := W.tr w1.any
  refine x_dup d_Generaliser_init_8 rfl ?_
  refine x_bipush (v := 40) d_Generaliser_init_9 (by decide) ?_
  refine Wq.bud (bc := 2 + 1) (bs := 80 + 40) (by omega) (by omega) ?_
  refine x_callI1 (mc := 1) (ms := 40) (bc := 2) (bs := 80) d_Generaliser_init_11 k_Row_init rfl l_Generaliser_11 v_Row_init rfl RoomE.m (Nat.le_of_ble_eq_true rfl) (c_Row_init (n := 40) aw1 hL (by omega) (fun Γ2 σ2 w2 pw2 => ?_))
  have aw1 := w2.sh aw1
  have hL := w2.len hL
  have hT := w2.sh hT
  have W := W.lateN w2 (by omega)
  first | refine x_putR d_Generaliser_init_14 w_Generaliser_init_14 rfl (by assumption) ?_ | refine x_putN d_Generaliser_init_14 w_Generaliser_init_14 rfl (by assumption) ?_ | refine x_putQ d_Generaliser_init_14 w_Generaliser_init_14 rfl (by assumption) ?_
  generalize ew3 : wR σ2 380 2 (some 381) = σ3
  have w3 : Nw Γ2 σ2 (Is 380) 0 Γ2 σ3 := by rw [← ew3]; exact Nw.wR
  have aw1 := w3.sh aw1
  have pw2 := pw2.nw w3 (by first | exact no0 | exact Is.no (by omega)) (by first | exact no0 | exact Is.no (by omega))
  have hL := w3.len hL
  have hT := w3.sh hT
  have W := W.tr w3
  have fw3 : σ3.2.1 380 2 = (some 381) := by rw [← ew3]; exact wR_s
  first | refine x_aload_n d_Generaliser_init_17 rfl rfl ?_ | refine x_aloadN_n d_Generaliser_init_17 rfl rfl ?_ | refine x_aloadE_n d_Generaliser_init_17 rfl rfl ?_ | refine x_aloadO_n d_Generaliser_init_17 rfl rfl ?_
  refine x_bipush (v := 40) d_Generaliser_init_18 (by decide) ?_
  refine Wq.bud (bc := 1 + 1) (bs := 40 + 40) (by omega) (by omega) ?_
  refine x_newaK (k := 383) (t := 1) (N := 40) (bc := 1) (bs := 40) (by omega) d_Generaliser_init_20 rfl (by decide) ac_int (by decide) (by decide) (by decide) EvOK.m (fun Γ4 σ4 w4 aw4 zw4 => ?_)
  have aw1 := w4.sh aw1
  have pw2 := pw2.nw w4 (by first | exact no0 | exact Is.no (by omega)) (by first | exact no0 | exact Is.no (by omega))
  have fw3 := w4.r (by omega) (by first | exact no0 | exact Is.no (by omega)) fw3
  have hL := w4.len hL
  have hT := w4.sh hT
  have W := W.tr w4.any
  first | refine x_putR d_Generaliser_init_22 w_Generaliser_init_20 rfl (by assumption) ?_ | refine x_putN d_Generaliser_init_22 w_Generaliser_init_20 rfl (by assumption) ?_ | refine x_putQ d_Generaliser_init_22 w_Generaliser_init_20 rfl (by assumption) ?_
  generalize ew5 : wR σ4 380 3 (some 383) = σ5
  have w5 : Nw Γ4 σ4 (Is 380) 0 Γ4 σ5 := by rw [← ew5]; exact Nw.wR
  have aw1 := w5.sh aw1
  have pw2 := pw2.nw w5 (by first | exact no0 | exact Is.no (by omega)) (by first | exact no0 | exact Is.no (by omega))
  have aw4 := w5.sh aw4
  have zw4 := zw4.nw w5 (by omega) (by first | exact no0 | exact Is.no (by omega))
  have fw3 : σ5.2.1 380 2 = (some 381) := by rw [← ew5, wR_j (by decide)]; exact fw3
  have hL := w5.len hL
  have hT := w5.sh hT
  have W := W.tr w5
  have fw5 : σ5.2.1 380 3 = (some 383) := by rw [← ew5]; exact wR_s
  first | refine x_aload_n d_Generaliser_init_25 rfl rfl ?_ | refine x_aloadN_n d_Generaliser_init_25 rfl rfl ?_ | refine x_aloadE_n d_Generaliser_init_25 rfl rfl ?_ | refine x_aloadO_n d_Generaliser_init_25 rfl rfl ?_
  refine x_bipush (v := 40) d_Generaliser_init_26 (by decide) ?_
  refine Wq.bud (bc := 0 + 1) (bs := 0 + 40) (by omega) (by omega) ?_
  refine x_newaK (k := 384) (t := 1) (N := 40) (bc := 0) (bs := 0) (by omega) d_Generaliser_init_28 rfl (by decide) ac_int (by decide) (by decide) (by decide) EvOK.m (fun Γ6 σ6 w6 aw6 zw6 => ?_)
  have aw1 := w6.sh aw1
  have pw2 := pw2.nw w6 (by first | exact no0 | exact Is.no (by omega)) (by first | exact no0 | exact Is.no (by omega))
  have aw4 := w6.sh aw4
  have zw4 := zw4.nw w6 (by omega) (by first | exact no0 | exact Is.no (by omega))
  have fw3 := w6.r (by omega) (by first | exact no0 | exact Is.no (by omega)) fw3
  have fw5 := w6.r (by omega) (by first | exact no0 | exact Is.no (by omega)) fw5
  have hL := w6.len hL
  have hT := w6.sh hT
  have W := W.tr w6.any
  first | refine x_putR d_Generaliser_init_30 w_Generaliser_init_24 rfl (by assumption) ?_ | refine x_putN d_Generaliser_init_30 w_Generaliser_init_24 rfl (by assumption) ?_ | refine x_putQ d_Generaliser_init_30 w_Generaliser_init_24 rfl (by assumption) ?_
  generalize ew7 : wR σ6 380 4 (some 384) = σ7
  have w7 : Nw Γ6 σ6 (Is 380) 0 Γ6 σ7 := by rw [← ew7]; exact Nw.wR
  have aw1 := w7.sh aw1
  have pw2 := pw2.nw w7 (by first | exact no0 | exact Is.no (by omega)) (by first | exact no0 | exact Is.no (by omega))
  have aw4 := w7.sh aw4
  have zw4 := zw4.nw w7 (by omega) (by first | exact no0 | exact Is.no (by omega))
  have aw6 := w7.sh aw6
  have zw6 := zw6.nw w7 (by omega) (by first | exact no0 | exact Is.no (by omega))
  have fw3 : σ7.2.1 380 2 = (some 381) := by rw [← ew7, wR_j (by decide)]; exact fw3
  have fw5 : σ7.2.1 380 3 = (some 383) := by rw [← ew7, wR_j (by decide)]; exact fw5
  have hL := w7.len hL
  have hT := w7.sh hT
  have W := W.tr w7
  have fw7 : σ7.2.1 380 4 = (some 384) := by rw [← ew7]; exact wR_s
  first | refine x_aload_n d_Generaliser_init_33 rfl rfl ?_ | refine x_aloadN_n d_Generaliser_init_33 rfl rfl ?_ | refine x_aloadE_n d_Generaliser_init_33 rfl rfl ?_ | refine x_aloadO_n d_Generaliser_init_33 rfl rfl ?_
  refine x_iconst (v := 0) d_Generaliser_init_34 (by decide) ?_
  refine x_putI d_Generaliser_init_35 (w_Generaliser_init_27 _) rfl (by first | rfl | decide) (by first | rfl | decide) (by assumption) ?_
  generalize ew8 : wI σ7 380 5 0 = σ8
  have w8 : Nw Γ6 σ7 (Is 380) 0 Γ6 σ8 := by rw [← ew8]; exact Nw.wI
  have aw1 := w8.sh aw1
  have pw2 := pw2.nw w8 (by first | exact no0 | exact Is.no (by omega)) (by first | exact no0 | exact Is.no (by omega))
  have aw4 := w8.sh aw4
  have zw4 := zw4.nw w8 (by omega) (by first | exact no0 | exact Is.no (by omega))
  have aw6 := w8.sh aw6
  have zw6 := zw6.nw w8 (by omega) (by first | exact no0 | exact Is.no (by omega))
  have fw3 : σ8.2.1 380 2 = (some 381) := by rw [← ew8]; exact fw3
  have fw5 : σ8.2.1 380 3 = (some 383) := by rw [← ew8]; exact fw5
  have fw7 : σ8.2.1 380 4 = (some 384) := by rw [← ew8]; exact fw7
  have hL := w8.len hL
  have hT := w8.sh hT
  have W := W.tr w8
  have fw8 : σ8.1 380 5 = 0 := by rw [← ew8]; exact wI_s
  first | refine x_aload_n d_Generaliser_init_38 rfl rfl ?_ | refine x_aloadN_n d_Generaliser_init_38 rfl rfl ?_ | refine x_aloadE_n d_Generaliser_init_38 rfl rfl ?_ | refine x_aloadO_n d_Generaliser_init_38 rfl rfl ?_
  refine x_iconst (v := -1) d_Generaliser_init_39 (by decide) ?_
  refine x_putI d_Generaliser_init_40 (w_Generaliser_init_31 _) rfl (by first | rfl | decide) (by first | rfl | decide) (by assumption) ?_
  generalize ew9 : wI σ8 380 6 (-1) = σ9
  have w9 : Nw Γ6 σ8 (Is 380) 0 Γ6 σ9 := by rw [← ew9]; exact Nw.wI
  have aw1 := w9.sh aw1
  have pw2 := pw2.nw w9 (by first | exact no0 | exact Is.no (by omega)) (by first | exact no0 | exact Is.no (by omega))
  have aw4 := w9.sh aw4
  have zw4 := zw4.nw w9 (by omega) (by first | exact no0 | exact Is.no (by omega))
  have aw6 := w9.sh aw6
  have zw6 := zw6.nw w9 (by omega) (by first | exact no0 | exact Is.no (by omega))
  have fw3 : σ9.2.1 380 2 = (some 381) := by rw [← ew9]; exact fw3
  have fw5 : σ9.2.1 380 3 = (some 383) := by rw [← ew9]; exact fw5
  have fw7 : σ9.2.1 380 4 = (some 384) := by rw [← ew9]; exact fw7
  have fw8 : σ9.1 380 5 = 0 := by rw [← ew9, wI_j (by decide)]; exact fw8
  have hL := w9.len hL
  have hT := w9.sh hT
  have W := W.tr w9
  have fw9 : σ9.1 380 6 = (-1) := by rw [← ew9]; exact wI_s
  first | refine x_aload_n d_Generaliser_init_43 rfl rfl ?_ | refine x_aloadN_n d_Generaliser_init_43 rfl rfl ?_ | refine x_aloadE_n d_Generaliser_init_43 rfl rfl ?_ | refine x_aloadO_n d_Generaliser_init_43 rfl rfl ?_
  first | refine x_aload_n d_Generaliser_init_44 rfl rfl ?_ | refine x_aloadN_n d_Generaliser_init_44 rfl rfl ?_ | refine x_aloadE_n d_Generaliser_init_44 rfl rfl ?_ | refine x_aloadO_n d_Generaliser_init_44 rfl rfl ?_
  first | refine x_putR d_Generaliser_init_45 w_Generaliser_init_34 rfl (by assumption) ?_ | refine x_putN d_Generaliser_init_45 w_Generaliser_init_34 rfl (by assumption) ?_ | refine x_putQ d_Generaliser_init_45 w_Generaliser_init_34 rfl (by assumption) ?_
  generalize ew10 : wR σ9 380 0 (some 27) = σ10
  have w10 : Nw Γ6 σ9 (Is 380) 0 Γ6 σ10 := by rw [← ew10]; exact Nw.wR
  have aw1 := w10.sh aw1
  have pw2 := pw2.nw w10 (by first | exact no0 | exact Is.no (by omega)) (by first | exact no0 | exact Is.no (by omega))
  have aw4 := w10.sh aw4
  have zw4 := zw4.nw w10 (by omega) (by first | exact no0 | exact Is.no (by omega))
  have aw6 := w10.sh aw6
  have zw6 := zw6.nw w10 (by omega) (by first | exact no0 | exact Is.no (by omega))
  have fw3 : σ10.2.1 380 2 = (some 381) := by rw [← ew10, wR_j (by decide)]; exact fw3
  have fw5 : σ10.2.1 380 3 = (some 383) := by rw [← ew10, wR_j (by decide)]; exact fw5
  have fw7 : σ10.2.1 380 4 = (some 384) := by rw [← ew10, wR_j (by decide)]; exact fw7
  have fw8 : σ10.1 380 5 = 0 := by rw [← ew10]; exact fw8
  have fw9 : σ10.1 380 6 = (-1) := by rw [← ew10]; exact fw9
  have hL := w10.len hL
  have hT := w10.sh hT
  have W := W.tr w10
  have fw10 : σ10.2.1 380 0 = (some 27) := by rw [← ew10]; exact wR_s
  first | refine x_aload_n d_Generaliser_init_48 rfl rfl ?_ | refine x_aloadN_n d_Generaliser_init_48 rfl rfl ?_ | refine x_aloadE_n d_Generaliser_init_48 rfl rfl ?_ | refine x_aloadO_n d_Generaliser_init_48 rfl rfl ?_
  first | refine x_aload_n d_Generaliser_init_49 rfl rfl ?_ | refine x_aloadN_n d_Generaliser_init_49 rfl rfl ?_ | refine x_aloadE_n d_Generaliser_init_49 rfl rfl ?_ | refine x_aloadO_n d_Generaliser_init_49 rfl rfl ?_
  first | refine x_putR d_Generaliser_init_50 w_Generaliser_init_38 rfl (by assumption) ?_ | refine x_putN d_Generaliser_init_50 w_Generaliser_init_38 rfl (by assumption) ?_ | refine x_putQ d_Generaliser_init_50 w_Generaliser_init_38 rfl (by assumption) ?_
  generalize ew11 : wR σ10 380 1 (some 131) = σ11
  have w11 : Nw Γ6 σ10 (Is 380) 0 Γ6 σ11 := by rw [← ew11]; exact Nw.wR
  have aw1 := w11.sh aw1
  have pw2 := pw2.nw w11 (by first | exact no0 | exact Is.no (by omega)) (by first | exact no0 | exact Is.no (by omega))
  have aw4 := w11.sh aw4
  have zw4 := zw4.nw w11 (by omega) (by first | exact no0 | exact Is.no (by omega))
  have aw6 := w11.sh aw6
  have zw6 := zw6.nw w11 (by omega) (by first | exact no0 | exact Is.no (by omega))
  have fw3 : σ11.2.1 380 2 = (some 381) := by rw [← ew11, wR_j (by decide)]; exact fw3
  have fw5 : σ11.2.1 380 3 = (some 383) := by rw [← ew11, wR_j (by decide)]; exact fw5
  have fw7 : σ11.2.1 380 4 = (some 384) := by rw [← ew11, wR_j (by decide)]; exact fw7
  have fw8 : σ11.1 380 5 = 0 := by rw [← ew11]; exact fw8
  have fw9 : σ11.1 380 6 = (-1) := by rw [← ew11]; exact fw9
  have fw10 : σ11.2.1 380 0 = (some 27) := by rw [← ew11, wR_j (by decide)]; exact fw10
  have hL := w11.len hL
  have hT := w11.sh hT
  have W := W.tr w11
  have fw11 : σ11.2.1 380 1 = (some 131) := by rw [← ew11]; exact wR_s
  exact x_return d_Generaliser_init_53 rfl (hQ _ _ W (⟨⟨hT, aw4, aw6⟩, ⟨fw10, fw11, fw3, fw5, fw7⟩, ⟨by rw [fw8]; exact nI_0.symm, by show 0 ≤ 40; omega⟩, fw9, fun k hk => absurd hk (Nat.not_lt_zero _), pw2⟩))
set_option maxRecDepth 10000 in
set_option maxHeartbeats 1000000 in
theorem c_Driver_init {G : Ctx} {d : Nat} {Γ : List Sh} {σ : Mem} {Q : Option Value → List Sh → Mem → Prop}  (hT : Γ[373]? = some (0, 7)) (hL : Γ.length = 374) (hQ : ∀ Γ' σ', Nw Γ σ (Is 373) 11 Γ' σ' → (isDrv Γ' σ' ∧ isGen Γ' σ' ([], 0, -1, fun _ => 0, fun _ => 0)) → Q none Γ' σ') : Ct G M_Driver_init (d + 3) 11 302 [rf G 373, rf G 27, rf G 33, rf G 131, rf G 22] Γ σ Q := by
  refine Ct.of (lv := [some (rf G 373), some (rf G 27), some (rf G 33), some (rf G 131), some (rf G 22)]) (ll := []) rfl rfl (EN.cat (n := 0) ⟨rfl, rfl, rfl, rfl, rfl, trivial⟩ (Nat.le_of_ble_eq_true rfl)) ?_
  have W : Nw Γ σ (Is 373) 0 Γ σ := Nw.rf
  first | refine x_aload_n d_Driver_init_0 rfl rfl ?_ | refine x_aloadN_n d_Driver_init_0 rfl rfl ?_ | refine x_aloadE_n d_Driver_init_0 rfl rfl ?_ | refine x_aloadO_n d_Driver_init_0 rfl rfl ?_
  refine x_objInit d_Driver_init_1 l_Driver_3 v_objInit k_objInit RoomL.m (Nat.le_of_ble_eq_true rfl) ?_
  first | refine x_aload_n d_Driver_init_4 rfl rfl ?_ | refine x_aloadN_n d_Driver_init_4 rfl rfl ?_ | refine x_aloadE_n d_Driver_init_4 rfl rfl ?_ | refine x_aloadO_n d_Driver_init_4 rfl rfl ?_
  refine Wq.bud (bc := 10 + 1) (bs := 299 + 3) (by omega) (by omega) ?_
  refine x_newK (k := 374) (bc := 10) (bs := 299) (by omega) d_Driver_init_5 kc_Row cl_Driver_9 ins_Row ini_Row (by decide +kernel) EvOK.m (fun Γ1 σ1 w1 aw1 zw1 => ?_)
  have hL := w1.len hL
  have hT := w1.sh hT
  have W := W.tr w1.any
  refine x_dup d_Driver_init_8 rfl ?_
  refine x_bipush (v := 40) d_Driver_init_9 (by decide) ?_
  refine Wq.bud (bc := 9 + 1) (bs := 259 + 40) (by omega) (by omega) ?_
  refine x_callI1 (mc := 1) (ms := 40) (bc := 9) (bs := 259) d_Driver_init_11 k_Row_init rfl l_Driver_11 v_Row_init rfl RoomE.m (Nat.le_of_ble_eq_true rfl) (c_Row_init (n := 40) aw1 hL (by omega) (fun Γ2 σ2 w2 pw2 => ?_))
  have aw1 := w2.sh aw1
  have hL := w2.len hL
  have hT := w2.sh hT
  have W := W.lateN w2 (by omega)
  first | refine x_putR d_Driver_init_14 w_Driver_init_14 rfl (by assumption) ?_ | refine x_putN d_Driver_init_14 w_Driver_init_14 rfl (by assumption) ?_ | refine x_putQ d_Driver_init_14 w_Driver_init_14 rfl (by assumption) ?_
  generalize ew3 : wR σ2 373 5 (some 374) = σ3
  have w3 : Nw Γ2 σ2 (Is 373) 0 Γ2 σ3 := by rw [← ew3]; exact Nw.wR
  have aw1 := w3.sh aw1
  have pw2 := pw2.nw w3 (by first | exact no0 | exact Is.no (by omega)) (by first | exact no0 | exact Is.no (by omega))
  have hL := w3.len hL
  have hT := w3.sh hT
  have W := W.tr w3
  have fw3 : σ3.2.1 373 5 = (some 374) := by rw [← ew3]; exact wR_s
  first | refine x_aload_n d_Driver_init_17 rfl rfl ?_ | refine x_aloadN_n d_Driver_init_17 rfl rfl ?_ | refine x_aloadE_n d_Driver_init_17 rfl rfl ?_ | refine x_aloadO_n d_Driver_init_17 rfl rfl ?_
  refine Wq.bud (bc := 8 + 1) (bs := 256 + 3) (by omega) (by omega) ?_
  refine x_newK (k := 376) (bc := 8) (bs := 256) (by omega) d_Driver_init_18 kc_Row cl_Driver_9 ins_Row ini_Row (by decide +kernel) EvOK.m (fun Γ4 σ4 w4 aw4 zw4 => ?_)
  have aw1 := w4.sh aw1
  have pw2 := pw2.nw w4 (by first | exact no0 | exact Is.no (by omega)) (by first | exact no0 | exact Is.no (by omega))
  have fw3 := w4.r (by omega) (by first | exact no0 | exact Is.no (by omega)) fw3
  have hL := w4.len hL
  have hT := w4.sh hT
  have W := W.tr w4.any
  refine x_dup d_Driver_init_21 rfl ?_
  refine x_bipush (v := 120) d_Driver_init_22 (by decide) ?_
  refine Wq.bud (bc := 7 + 1) (bs := 136 + 120) (by omega) (by omega) ?_
  refine x_callI1 (mc := 1) (ms := 120) (bc := 7) (bs := 136) d_Driver_init_24 k_Row_init rfl l_Driver_11 v_Row_init rfl RoomE.m (Nat.le_of_ble_eq_true rfl) (c_Row_init (n := 120) aw4 hL (by omega) (fun Γ5 σ5 w5 pw5 => ?_))
  have aw1 := w5.sh aw1
  have pw2 := pw2.nw w5 (by first | exact no0 | exact Is.no (by omega)) (by first | exact no0 | exact Is.no (by omega))
  have aw4 := w5.sh aw4
  have fw3 := w5.r (by omega) (by first | exact no0 | exact Is.no (by omega)) fw3
  have hL := w5.len hL
  have hT := w5.sh hT
  have W := W.lateN w5 (by omega)
  first | refine x_putR d_Driver_init_27 w_Driver_init_20 rfl (by assumption) ?_ | refine x_putN d_Driver_init_27 w_Driver_init_20 rfl (by assumption) ?_ | refine x_putQ d_Driver_init_27 w_Driver_init_20 rfl (by assumption) ?_
  generalize ew6 : wR σ5 373 6 (some 376) = σ6
  have w6 : Nw Γ5 σ5 (Is 373) 0 Γ5 σ6 := by rw [← ew6]; exact Nw.wR
  have aw1 := w6.sh aw1
  have pw2 := pw2.nw w6 (by first | exact no0 | exact Is.no (by omega)) (by first | exact no0 | exact Is.no (by omega))
  have aw4 := w6.sh aw4
  have pw5 := pw5.nw w6 (by first | exact no0 | exact Is.no (by omega)) (by first | exact no0 | exact Is.no (by omega))
  have fw3 : σ6.2.1 373 5 = (some 374) := by rw [← ew6, wR_j (by decide)]; exact fw3
  have hL := w6.len hL
  have hT := w6.sh hT
  have W := W.tr w6
  have fw6 : σ6.2.1 373 6 = (some 376) := by rw [← ew6]; exact wR_s
  first | refine x_aload_n d_Driver_init_30 rfl rfl ?_ | refine x_aloadN_n d_Driver_init_30 rfl rfl ?_ | refine x_aloadE_n d_Driver_init_30 rfl rfl ?_ | refine x_aloadO_n d_Driver_init_30 rfl rfl ?_
  refine Wq.bud (bc := 6 + 1) (bs := 133 + 3) (by omega) (by omega) ?_
  refine x_newK (k := 378) (bc := 6) (bs := 133) (by omega) d_Driver_init_31 kc_Row cl_Driver_9 ins_Row ini_Row (by decide +kernel) EvOK.m (fun Γ7 σ7 w7 aw7 zw7 => ?_)
  have aw1 := w7.sh aw1
  have pw2 := pw2.nw w7 (by first | exact no0 | exact Is.no (by omega)) (by first | exact no0 | exact Is.no (by omega))
  have aw4 := w7.sh aw4
  have pw5 := pw5.nw w7 (by first | exact no0 | exact Is.no (by omega)) (by first | exact no0 | exact Is.no (by omega))
  have fw3 := w7.r (by omega) (by first | exact no0 | exact Is.no (by omega)) fw3
  have fw6 := w7.r (by omega) (by first | exact no0 | exact Is.no (by omega)) fw6
  have hL := w7.len hL
  have hT := w7.sh hT
  have W := W.tr w7.any
  refine x_dup d_Driver_init_34 rfl ?_
  refine x_iconst (v := 3) d_Driver_init_35 (by decide) ?_
  refine Wq.bud (bc := 5 + 1) (bs := 130 + 3) (by omega) (by omega) ?_
  refine x_callI1 (mc := 1) (ms := 3) (bc := 5) (bs := 130) d_Driver_init_36 k_Row_init rfl l_Driver_11 v_Row_init rfl RoomE.m (Nat.le_of_ble_eq_true rfl) (c_Row_init (n := 3) aw7 hL (by omega) (fun Γ8 σ8 w8 pw8 => ?_))
  have aw1 := w8.sh aw1
  have pw2 := pw2.nw w8 (by first | exact no0 | exact Is.no (by omega)) (by first | exact no0 | exact Is.no (by omega))
  have aw4 := w8.sh aw4
  have pw5 := pw5.nw w8 (by first | exact no0 | exact Is.no (by omega)) (by first | exact no0 | exact Is.no (by omega))
  have aw7 := w8.sh aw7
  have fw3 := w8.r (by omega) (by first | exact no0 | exact Is.no (by omega)) fw3
  have fw6 := w8.r (by omega) (by first | exact no0 | exact Is.no (by omega)) fw6
  have hL := w8.len hL
  have hT := w8.sh hT
  have W := W.lateN w8 (by omega)
  first | refine x_putR d_Driver_init_39 w_Driver_init_23 rfl (by assumption) ?_ | refine x_putN d_Driver_init_39 w_Driver_init_23 rfl (by assumption) ?_ | refine x_putQ d_Driver_init_39 w_Driver_init_23 rfl (by assumption) ?_
  generalize ew9 : wR σ8 373 7 (some 378) = σ9
  have w9 : Nw Γ8 σ8 (Is 373) 0 Γ8 σ9 := by rw [← ew9]; exact Nw.wR
  have aw1 := w9.sh aw1
  have pw2 := pw2.nw w9 (by first | exact no0 | exact Is.no (by omega)) (by first | exact no0 | exact Is.no (by omega))
  have aw4 := w9.sh aw4
  have pw5 := pw5.nw w9 (by first | exact no0 | exact Is.no (by omega)) (by first | exact no0 | exact Is.no (by omega))
  have aw7 := w9.sh aw7
  have pw8 := pw8.nw w9 (by first | exact no0 | exact Is.no (by omega)) (by first | exact no0 | exact Is.no (by omega))
  have fw3 : σ9.2.1 373 5 = (some 374) := by rw [← ew9, wR_j (by decide)]; exact fw3
  have fw6 : σ9.2.1 373 6 = (some 376) := by rw [← ew9, wR_j (by decide)]; exact fw6
  have hL := w9.len hL
  have hT := w9.sh hT
  have W := W.tr w9
  have fw9 : σ9.2.1 373 7 = (some 378) := by rw [← ew9]; exact wR_s
  first | refine x_aload_n d_Driver_init_42 rfl rfl ?_ | refine x_aloadN_n d_Driver_init_42 rfl rfl ?_ | refine x_aloadE_n d_Driver_init_42 rfl rfl ?_ | refine x_aloadO_n d_Driver_init_42 rfl rfl ?_
  first | refine x_aload_n d_Driver_init_43 rfl rfl ?_ | refine x_aloadN_n d_Driver_init_43 rfl rfl ?_ | refine x_aloadE_n d_Driver_init_43 rfl rfl ?_ | refine x_aloadO_n d_Driver_init_43 rfl rfl ?_
  first | refine x_putR d_Driver_init_44 w_Driver_init_26 rfl (by assumption) ?_ | refine x_putN d_Driver_init_44 w_Driver_init_26 rfl (by assumption) ?_ | refine x_putQ d_Driver_init_44 w_Driver_init_26 rfl (by assumption) ?_
  generalize ew10 : wR σ9 373 0 (some 27) = σ10
  have w10 : Nw Γ8 σ9 (Is 373) 0 Γ8 σ10 := by rw [← ew10]; exact Nw.wR
  have aw1 := w10.sh aw1
  have pw2 := pw2.nw w10 (by first | exact no0 | exact Is.no (by omega)) (by first | exact no0 | exact Is.no (by omega))
  have aw4 := w10.sh aw4
  have pw5 := pw5.nw w10 (by first | exact no0 | exact Is.no (by omega)) (by first | exact no0 | exact Is.no (by omega))
  have aw7 := w10.sh aw7
  have pw8 := pw8.nw w10 (by first | exact no0 | exact Is.no (by omega)) (by first | exact no0 | exact Is.no (by omega))
  have fw3 : σ10.2.1 373 5 = (some 374) := by rw [← ew10, wR_j (by decide)]; exact fw3
  have fw6 : σ10.2.1 373 6 = (some 376) := by rw [← ew10, wR_j (by decide)]; exact fw6
  have fw9 : σ10.2.1 373 7 = (some 378) := by rw [← ew10, wR_j (by decide)]; exact fw9
  have hL := w10.len hL
  have hT := w10.sh hT
  have W := W.tr w10
  have fw10 : σ10.2.1 373 0 = (some 27) := by rw [← ew10]; exact wR_s
  first | refine x_aload_n d_Driver_init_47 rfl rfl ?_ | refine x_aloadN_n d_Driver_init_47 rfl rfl ?_ | refine x_aloadE_n d_Driver_init_47 rfl rfl ?_ | refine x_aloadO_n d_Driver_init_47 rfl rfl ?_
  first | refine x_aload_n d_Driver_init_48 rfl rfl ?_ | refine x_aloadN_n d_Driver_init_48 rfl rfl ?_ | refine x_aloadE_n d_Driver_init_48 rfl rfl ?_ | refine x_aloadO_n d_Driver_init_48 rfl rfl ?_
  first | refine x_putR d_Driver_init_49 w_Driver_init_30 rfl (by assumption) ?_ | refine x_putN d_Driver_init_49 w_Driver_init_30 rfl (by assumption) ?_ | refine x_putQ d_Driver_init_49 w_Driver_init_30 rfl (by assumption) ?_
  generalize ew11 : wR σ10 373 1 (some 33) = σ11
  have w11 : Nw Γ8 σ10 (Is 373) 0 Γ8 σ11 := by rw [← ew11]; exact Nw.wR
  have aw1 := w11.sh aw1
  have pw2 := pw2.nw w11 (by first | exact no0 | exact Is.no (by omega)) (by first | exact no0 | exact Is.no (by omega))
  have aw4 := w11.sh aw4
  have pw5 := pw5.nw w11 (by first | exact no0 | exact Is.no (by omega)) (by first | exact no0 | exact Is.no (by omega))
  have aw7 := w11.sh aw7
  have pw8 := pw8.nw w11 (by first | exact no0 | exact Is.no (by omega)) (by first | exact no0 | exact Is.no (by omega))
  have fw3 : σ11.2.1 373 5 = (some 374) := by rw [← ew11, wR_j (by decide)]; exact fw3
  have fw6 : σ11.2.1 373 6 = (some 376) := by rw [← ew11, wR_j (by decide)]; exact fw6
  have fw9 : σ11.2.1 373 7 = (some 378) := by rw [← ew11, wR_j (by decide)]; exact fw9
  have fw10 : σ11.2.1 373 0 = (some 27) := by rw [← ew11, wR_j (by decide)]; exact fw10
  have hL := w11.len hL
  have hT := w11.sh hT
  have W := W.tr w11
  have fw11 : σ11.2.1 373 1 = (some 33) := by rw [← ew11]; exact wR_s
  first | refine x_aload_n d_Driver_init_52 rfl rfl ?_ | refine x_aloadN_n d_Driver_init_52 rfl rfl ?_ | refine x_aloadE_n d_Driver_init_52 rfl rfl ?_ | refine x_aloadO_n d_Driver_init_52 rfl rfl ?_
  first | refine x_aload_n d_Driver_init_53 rfl rfl ?_ | refine x_aloadN_n d_Driver_init_53 rfl rfl ?_ | refine x_aloadE_n d_Driver_init_53 rfl rfl ?_ | refine x_aloadO_n d_Driver_init_53 rfl rfl ?_
  first | refine x_putR d_Driver_init_54 w_Driver_init_34 rfl (by assumption) ?_ | refine x_putN d_Driver_init_54 w_Driver_init_34 rfl (by assumption) ?_ | refine x_putQ d_Driver_init_54 w_Driver_init_34 rfl (by assumption) ?_
  generalize ew12 : wR σ11 373 2 (some 131) = σ12
  have w12 : Nw Γ8 σ11 (Is 373) 0 Γ8 σ12 := by rw [← ew12]; exact Nw.wR
  have aw1 := w12.sh aw1
  have pw2 := pw2.nw w12 (by first | exact no0 | exact Is.no (by omega)) (by first | exact no0 | exact Is.no (by omega))
  have aw4 := w12.sh aw4
  have pw5 := pw5.nw w12 (by first | exact no0 | exact Is.no (by omega)) (by first | exact no0 | exact Is.no (by omega))
  have aw7 := w12.sh aw7
  have pw8 := pw8.nw w12 (by first | exact no0 | exact Is.no (by omega)) (by first | exact no0 | exact Is.no (by omega))
  have fw3 : σ12.2.1 373 5 = (some 374) := by rw [← ew12, wR_j (by decide)]; exact fw3
  have fw6 : σ12.2.1 373 6 = (some 376) := by rw [← ew12, wR_j (by decide)]; exact fw6
  have fw9 : σ12.2.1 373 7 = (some 378) := by rw [← ew12, wR_j (by decide)]; exact fw9
  have fw10 : σ12.2.1 373 0 = (some 27) := by rw [← ew12, wR_j (by decide)]; exact fw10
  have fw11 : σ12.2.1 373 1 = (some 33) := by rw [← ew12, wR_j (by decide)]; exact fw11
  have hL := w12.len hL
  have hT := w12.sh hT
  have W := W.tr w12
  have fw12 : σ12.2.1 373 2 = (some 131) := by rw [← ew12]; exact wR_s
  first | refine x_aload_n d_Driver_init_57 rfl rfl ?_ | refine x_aloadN_n d_Driver_init_57 rfl rfl ?_ | refine x_aloadE_n d_Driver_init_57 rfl rfl ?_ | refine x_aloadO_n d_Driver_init_57 rfl rfl ?_
  first | refine x_aload d_Driver_init_58 rfl ?_ | refine x_aloadN d_Driver_init_58 rfl ?_ | refine x_aloadE d_Driver_init_58 rfl ?_ | refine x_aloadO d_Driver_init_58 rfl ?_
  first | refine x_putR d_Driver_init_60 w_Driver_init_38 rfl (by assumption) ?_ | refine x_putN d_Driver_init_60 w_Driver_init_38 rfl (by assumption) ?_ | refine x_putQ d_Driver_init_60 w_Driver_init_38 rfl (by assumption) ?_
  generalize ew13 : wR σ12 373 3 (some 22) = σ13
  have w13 : Nw Γ8 σ12 (Is 373) 0 Γ8 σ13 := by rw [← ew13]; exact Nw.wR
  have aw1 := w13.sh aw1
  have pw2 := pw2.nw w13 (by first | exact no0 | exact Is.no (by omega)) (by first | exact no0 | exact Is.no (by omega))
  have aw4 := w13.sh aw4
  have pw5 := pw5.nw w13 (by first | exact no0 | exact Is.no (by omega)) (by first | exact no0 | exact Is.no (by omega))
  have aw7 := w13.sh aw7
  have pw8 := pw8.nw w13 (by first | exact no0 | exact Is.no (by omega)) (by first | exact no0 | exact Is.no (by omega))
  have fw3 : σ13.2.1 373 5 = (some 374) := by rw [← ew13, wR_j (by decide)]; exact fw3
  have fw6 : σ13.2.1 373 6 = (some 376) := by rw [← ew13, wR_j (by decide)]; exact fw6
  have fw9 : σ13.2.1 373 7 = (some 378) := by rw [← ew13, wR_j (by decide)]; exact fw9
  have fw10 : σ13.2.1 373 0 = (some 27) := by rw [← ew13, wR_j (by decide)]; exact fw10
  have fw11 : σ13.2.1 373 1 = (some 33) := by rw [← ew13, wR_j (by decide)]; exact fw11
  have fw12 : σ13.2.1 373 2 = (some 131) := by rw [← ew13, wR_j (by decide)]; exact fw12
  have hL := w13.len hL
  have hT := w13.sh hT
  have W := W.tr w13
  have fw13 : σ13.2.1 373 3 = (some 22) := by rw [← ew13]; exact wR_s
  first | refine x_aload_n d_Driver_init_63 rfl rfl ?_ | refine x_aloadN_n d_Driver_init_63 rfl rfl ?_ | refine x_aloadE_n d_Driver_init_63 rfl rfl ?_ | refine x_aloadO_n d_Driver_init_63 rfl rfl ?_
  refine Wq.bud (bc := 4 + 1) (bs := 123 + 7) (by omega) (by omega) ?_
  refine x_newK (k := 380) (bc := 4) (bs := 123) (by omega) d_Driver_init_64 kc_Generaliser cl_Driver_42 ins_Generaliser ini_Generaliser (by decide +kernel) EvOK.m (fun Γ14 σ14 w14 aw14 zw14 => ?_)
  have aw1 := w14.sh aw1
  have pw2 := pw2.nw w14 (by first | exact no0 | exact Is.no (by omega)) (by first | exact no0 | exact Is.no (by omega))
  have aw4 := w14.sh aw4
  have pw5 := pw5.nw w14 (by first | exact no0 | exact Is.no (by omega)) (by first | exact no0 | exact Is.no (by omega))
  have aw7 := w14.sh aw7
  have pw8 := pw8.nw w14 (by first | exact no0 | exact Is.no (by omega)) (by first | exact no0 | exact Is.no (by omega))
  have fw3 := w14.r (by omega) (by first | exact no0 | exact Is.no (by omega)) fw3
  have fw6 := w14.r (by omega) (by first | exact no0 | exact Is.no (by omega)) fw6
  have fw9 := w14.r (by omega) (by first | exact no0 | exact Is.no (by omega)) fw9
  have fw10 := w14.r (by omega) (by first | exact no0 | exact Is.no (by omega)) fw10
  have fw11 := w14.r (by omega) (by first | exact no0 | exact Is.no (by omega)) fw11
  have fw12 := w14.r (by omega) (by first | exact no0 | exact Is.no (by omega)) fw12
  have fw13 := w14.r (by omega) (by first | exact no0 | exact Is.no (by omega)) fw13
  have hL := w14.len hL
  have hT := w14.sh hT
  have W := W.tr w14.any
  refine x_dup d_Driver_init_67 rfl ?_
  first | refine x_aload_n d_Driver_init_68 rfl rfl ?_ | refine x_aloadN_n d_Driver_init_68 rfl rfl ?_ | refine x_aloadE_n d_Driver_init_68 rfl rfl ?_ | refine x_aloadO_n d_Driver_init_68 rfl rfl ?_
  first | refine x_aload_n d_Driver_init_69 rfl rfl ?_ | refine x_aloadN_n d_Driver_init_69 rfl rfl ?_ | refine x_aloadE_n d_Driver_init_69 rfl rfl ?_ | refine x_aloadO_n d_Driver_init_69 rfl rfl ?_
  refine Wq.bud (bc := 0 + 4) (bs := 0 + 123) (by omega) (by omega) ?_
  refine x_callI2 (mc := 4) (ms := 123) (bc := 0) (bs := 0) d_Driver_init_70 k_Generaliser_init rfl l_Driver_44 v_Generaliser_init rfl RoomE.m (Nat.le_of_ble_eq_true rfl) (c_Generaliser_init aw14 hL (fun Γ15 σ15 w15 pw15 => ?_))
  have aw1 := w15.sh aw1
  have pw2 := pw2.nw w15 (by first | exact no0 | exact Is.no (by omega)) (by first | exact no0 | exact Is.no (by omega))
  have aw4 := w15.sh aw4
  have pw5 := pw5.nw w15 (by first | exact no0 | exact Is.no (by omega)) (by first | exact no0 | exact Is.no (by omega))
  have aw7 := w15.sh aw7
  have pw8 := pw8.nw w15 (by first | exact no0 | exact Is.no (by omega)) (by first | exact no0 | exact Is.no (by omega))
  have aw14 := w15.sh aw14
  have fw3 := w15.r (by omega) (by first | exact no0 | exact Is.no (by omega)) fw3
  have fw6 := w15.r (by omega) (by first | exact no0 | exact Is.no (by omega)) fw6
  have fw9 := w15.r (by omega) (by first | exact no0 | exact Is.no (by omega)) fw9
  have fw10 := w15.r (by omega) (by first | exact no0 | exact Is.no (by omega)) fw10
  have fw11 := w15.r (by omega) (by first | exact no0 | exact Is.no (by omega)) fw11
  have fw12 := w15.r (by omega) (by first | exact no0 | exact Is.no (by omega)) fw12
  have fw13 := w15.r (by omega) (by first | exact no0 | exact Is.no (by omega)) fw13
  have hL := w15.len hL
  have hT := w15.sh hT
  have W := W.lateN w15 (by omega)
  first | refine x_putR d_Driver_init_73 w_Driver_init_47 rfl (by assumption) ?_ | refine x_putN d_Driver_init_73 w_Driver_init_47 rfl (by assumption) ?_ | refine x_putQ d_Driver_init_73 w_Driver_init_47 rfl (by assumption) ?_
  generalize ew16 : wR σ15 373 4 (some 380) = σ16
  have w16 : Nw Γ15 σ15 (Is 373) 0 Γ15 σ16 := by rw [← ew16]; exact Nw.wR
  have aw1 := w16.sh aw1
  have pw2 := pw2.nw w16 (by first | exact no0 | exact Is.no (by omega)) (by first | exact no0 | exact Is.no (by omega))
  have aw4 := w16.sh aw4
  have pw5 := pw5.nw w16 (by first | exact no0 | exact Is.no (by omega)) (by first | exact no0 | exact Is.no (by omega))
  have aw7 := w16.sh aw7
  have pw8 := pw8.nw w16 (by first | exact no0 | exact Is.no (by omega)) (by first | exact no0 | exact Is.no (by omega))
  have aw14 := w16.sh aw14
  have pw15 := pw15.nw w16 (fun a h1 h2 => by first | exact no0 | exact Is.no (by omega))
  have fw3 : σ16.2.1 373 5 = (some 374) := by rw [← ew16, wR_j (by decide)]; exact fw3
  have fw6 : σ16.2.1 373 6 = (some 376) := by rw [← ew16, wR_j (by decide)]; exact fw6
  have fw9 : σ16.2.1 373 7 = (some 378) := by rw [← ew16, wR_j (by decide)]; exact fw9
  have fw10 : σ16.2.1 373 0 = (some 27) := by rw [← ew16, wR_j (by decide)]; exact fw10
  have fw11 : σ16.2.1 373 1 = (some 33) := by rw [← ew16, wR_j (by decide)]; exact fw11
  have fw12 : σ16.2.1 373 2 = (some 131) := by rw [← ew16, wR_j (by decide)]; exact fw12
  have fw13 : σ16.2.1 373 3 = (some 22) := by rw [← ew16, wR_j (by decide)]; exact fw13
  have hL := w16.len hL
  have hT := w16.sh hT
  have W := W.tr w16
  have fw16 : σ16.2.1 373 4 = (some 380) := by rw [← ew16]; exact wR_s
  exact x_return d_Driver_init_76 rfl (hQ _ _ W (⟨⟨hT, ⟨fw10, fw11, fw12, fw13, fw16, fw3, fw6, fw9⟩, ⟨_, pw2⟩, ⟨_, pw5⟩, _, pw8⟩, pw15⟩))
set_option maxRecDepth 10000 in
set_option maxHeartbeats 1000000 in
theorem c_ResidualProgram_init {G : Ctx} {d : Nat} {Γ : List Sh} {σ : Mem} {Q : Option Value → List Sh → Mem → Prop}  (hT : Γ[385]? = some (0, 9)) (hL : Γ.length = 386) (hQ : ∀ Γ' σ', Nw Γ σ (Is 385) 0 Γ' σ' → isRes Γ' σ' → Q none Γ' σ') : Ct G M_ResidualProgram_init (d + 2) 0 0 [rf G 385, rf G 27, rf G 22, rf G 131] Γ σ Q := by
  refine Ct.of (lv := [some (rf G 385), some (rf G 27), some (rf G 22), some (rf G 131)]) (ll := []) rfl rfl (EN.cat (n := 0) ⟨rfl, rfl, rfl, rfl, trivial⟩ (Nat.le_of_ble_eq_true rfl)) ?_
  have W : Nw Γ σ (Is 385) 0 Γ σ := Nw.rf
  first | refine x_aload_n d_ResidualProgram_init_0 rfl rfl ?_ | refine x_aloadN_n d_ResidualProgram_init_0 rfl rfl ?_ | refine x_aloadE_n d_ResidualProgram_init_0 rfl rfl ?_ | refine x_aloadO_n d_ResidualProgram_init_0 rfl rfl ?_
  first | refine x_aload_n d_ResidualProgram_init_1 rfl rfl ?_ | refine x_aloadN_n d_ResidualProgram_init_1 rfl rfl ?_ | refine x_aloadE_n d_ResidualProgram_init_1 rfl rfl ?_ | refine x_aloadO_n d_ResidualProgram_init_1 rfl rfl ?_
  first | refine x_aload_n d_ResidualProgram_init_2 rfl rfl ?_ | refine x_aloadN_n d_ResidualProgram_init_2 rfl rfl ?_ | refine x_aloadE_n d_ResidualProgram_init_2 rfl rfl ?_ | refine x_aloadO_n d_ResidualProgram_init_2 rfl rfl ?_
  refine Wq.bud (bc := 0 + 0) (bs := 0 + 0) (by omega) (by omega) ?_
  refine x_callI2 (mc := 0) (ms := 0) (bc := 0) (bs := 0) d_ResidualProgram_init_3 k_Program_init rfl l_ResidualProgram_3 v_Program_init rfl RoomE.m (Nat.le_of_ble_eq_true rfl) (c_Program_init_9 hT hL (fun Γ1 σ1 w1 pw1 => ?_))
  have hL := w1.len hL
  have hT := w1.sh hT
  have W := W.tr w1
  have g1 := pw1.1
  have g2 := pw1.2
  first | refine x_aload_n d_ResidualProgram_init_6 rfl rfl ?_ | refine x_aloadN_n d_ResidualProgram_init_6 rfl rfl ?_ | refine x_aloadE_n d_ResidualProgram_init_6 rfl rfl ?_ | refine x_aloadO_n d_ResidualProgram_init_6 rfl rfl ?_
  first | refine x_aload_n d_ResidualProgram_init_7 rfl rfl ?_ | refine x_aloadN_n d_ResidualProgram_init_7 rfl rfl ?_ | refine x_aloadE_n d_ResidualProgram_init_7 rfl rfl ?_ | refine x_aloadO_n d_ResidualProgram_init_7 rfl rfl ?_
  first | refine x_putR d_ResidualProgram_init_8 w_ResidualProgram_init_9 rfl (by assumption) ?_ | refine x_putN d_ResidualProgram_init_8 w_ResidualProgram_init_9 rfl (by assumption) ?_ | refine x_putQ d_ResidualProgram_init_8 w_ResidualProgram_init_9 rfl (by assumption) ?_
  generalize ew2 : wR σ1 385 0 (some 131) = σ2
  have w2 : Nw Γ1 σ1 (Is 385) 0 Γ1 σ2 := by rw [← ew2]; exact Nw.wR
  have g1 : σ2.2.1 385 1 = some 27 := by rw [← ew2, wR_j (by decide)]; exact g1
  have g2 : σ2.2.1 385 2 = some 22 := by rw [← ew2, wR_j (by decide)]; exact g2
  have hL := w2.len hL
  have hT := w2.sh hT
  have W := W.tr w2
  have fw2 : σ2.2.1 385 0 = (some 131) := by rw [← ew2]; exact wR_s
  exact x_return d_ResidualProgram_init_11 rfl (hQ _ _ W (⟨hT, fw2, g1, g2⟩))
set_option maxRecDepth 10000 in
set_option maxHeartbeats 1000000 in
theorem c_Runner_init {G : Ctx} {d : Nat} {Γ : List Sh} {σ : Mem} {Q : Option Value → List Sh → Mem → Prop}  (hT : Γ[386]? = some (0, 10)) (hL : Γ.length = 387) (hQ : ∀ Γ' σ', Nw Γ σ (Is 386) 4 Γ' σ' → isRun Γ' σ' [] (-1) 0 → Q none Γ' σ') : Ct G M_Runner_init (d + 2) 4 406 [rf G 386, rf G 27, rf G 22] Γ σ Q := by
  refine Ct.of (lv := [some (rf G 386), some (rf G 27), some (rf G 22)]) (ll := []) rfl rfl (EN.cat (n := 0) ⟨rfl, rfl, rfl, trivial⟩ (Nat.le_of_ble_eq_true rfl)) ?_
  have W : Nw Γ σ (Is 386) 0 Γ σ := Nw.rf
  first | refine x_aload_n d_Runner_init_0 rfl rfl ?_ | refine x_aloadN_n d_Runner_init_0 rfl rfl ?_ | refine x_aloadE_n d_Runner_init_0 rfl rfl ?_ | refine x_aloadO_n d_Runner_init_0 rfl rfl ?_
  refine x_objInit d_Runner_init_1 l_Runner_3 v_objInit k_objInit RoomL.m (Nat.le_of_ble_eq_true rfl) ?_
  first | refine x_aload_n d_Runner_init_4 rfl rfl ?_ | refine x_aloadN_n d_Runner_init_4 rfl rfl ?_ | refine x_aloadE_n d_Runner_init_4 rfl rfl ?_ | refine x_aloadO_n d_Runner_init_4 rfl rfl ?_
  refine Wq.bud (bc := 3 + 1) (bs := 403 + 3) (by omega) (by omega) ?_
  refine x_newK (k := 387) (bc := 3) (bs := 403) (by omega) d_Runner_init_5 kc_Row cl_Runner_9 ins_Row ini_Row (by decide +kernel) EvOK.m (fun Γ1 σ1 w1 aw1 zw1 => ?_)
  have hL := w1.len hL
  have hT := w1.sh hT
  have W := W.tr w1.any
  refine x_dup d_Runner_init_8 rfl ?_
  refine x_sipush (v := 200) d_Runner_init_9 (by decide) ?_
  refine Wq.bud (bc := 2 + 1) (bs := 203 + 200) (by omega) (by omega) ?_
  refine x_callI1 (mc := 1) (ms := 200) (bc := 2) (bs := 203) d_Runner_init_12 k_Row_init rfl l_Runner_11 v_Row_init rfl RoomE.m (Nat.le_of_ble_eq_true rfl) (c_Row_init (n := 200) aw1 hL (by omega) (fun Γ2 σ2 w2 pw2 => ?_))
  have aw1 := w2.sh aw1
  have hL := w2.len hL
  have hT := w2.sh hT
  have W := W.lateN w2 (by omega)
  first | refine x_putR d_Runner_init_15 (w_Runner_init_14 _) rfl (by assumption) ?_ | refine x_putN d_Runner_init_15 (w_Runner_init_14 _) rfl (by assumption) ?_ | refine x_putQ d_Runner_init_15 (w_Runner_init_14 _) rfl (by assumption) ?_
  generalize ew3 : wR σ2 386 2 (some 387) = σ3
  have w3 : Nw Γ2 σ2 (Is 386) 0 Γ2 σ3 := by rw [← ew3]; exact Nw.wR
  have aw1 := w3.sh aw1
  have pw2 := pw2.nw w3 (by first | exact no0 | exact Is.no (by omega)) (by first | exact no0 | exact Is.no (by omega))
  have hL := w3.len hL
  have hT := w3.sh hT
  have W := W.tr w3
  have fw3 : σ3.2.1 386 2 = (some 387) := by rw [← ew3]; exact wR_s
  first | refine x_aload_n d_Runner_init_18 rfl rfl ?_ | refine x_aloadN_n d_Runner_init_18 rfl rfl ?_ | refine x_aloadE_n d_Runner_init_18 rfl rfl ?_ | refine x_aloadO_n d_Runner_init_18 rfl rfl ?_
  refine Wq.bud (bc := 1 + 1) (bs := 200 + 3) (by omega) (by omega) ?_
  refine x_newK (k := 389) (bc := 1) (bs := 200) (by omega) d_Runner_init_19 kc_Row cl_Runner_9 ins_Row ini_Row (by decide +kernel) EvOK.m (fun Γ4 σ4 w4 aw4 zw4 => ?_)
  have aw1 := w4.sh aw1
  have pw2 := pw2.nw w4 (by first | exact no0 | exact Is.no (by omega)) (by first | exact no0 | exact Is.no (by omega))
  have fw3 := w4.r (by omega) (by first | exact no0 | exact Is.no (by omega)) fw3
  have hL := w4.len hL
  have hT := w4.sh hT
  have W := W.tr w4.any
  refine x_dup d_Runner_init_22 rfl ?_
  refine x_sipush (v := 200) d_Runner_init_23 (by decide) ?_
  refine Wq.bud (bc := 0 + 1) (bs := 0 + 200) (by omega) (by omega) ?_
  refine x_callI1 (mc := 1) (ms := 200) (bc := 0) (bs := 0) d_Runner_init_26 k_Row_init rfl l_Runner_11 v_Row_init rfl RoomE.m (Nat.le_of_ble_eq_true rfl) (c_Row_init (n := 200) aw4 hL (by omega) (fun Γ5 σ5 w5 pw5 => ?_))
  have aw1 := w5.sh aw1
  have pw2 := pw2.nw w5 (by first | exact no0 | exact Is.no (by omega)) (by first | exact no0 | exact Is.no (by omega))
  have aw4 := w5.sh aw4
  have fw3 := w5.r (by omega) (by first | exact no0 | exact Is.no (by omega)) fw3
  have hL := w5.len hL
  have hT := w5.sh hT
  have W := W.lateN w5 (by omega)
  first | refine x_putR d_Runner_init_29 (w_Runner_init_20 _) rfl (by assumption) ?_ | refine x_putN d_Runner_init_29 (w_Runner_init_20 _) rfl (by assumption) ?_ | refine x_putQ d_Runner_init_29 (w_Runner_init_20 _) rfl (by assumption) ?_
  generalize ew6 : wR σ5 386 3 (some 389) = σ6
  have w6 : Nw Γ5 σ5 (Is 386) 0 Γ5 σ6 := by rw [← ew6]; exact Nw.wR
  have aw1 := w6.sh aw1
  have pw2 := pw2.nw w6 (by first | exact no0 | exact Is.no (by omega)) (by first | exact no0 | exact Is.no (by omega))
  have aw4 := w6.sh aw4
  have pw5 := pw5.nw w6 (by first | exact no0 | exact Is.no (by omega)) (by first | exact no0 | exact Is.no (by omega))
  have fw3 : σ6.2.1 386 2 = (some 387) := by rw [← ew6, wR_j (by decide)]; exact fw3
  have hL := w6.len hL
  have hT := w6.sh hT
  have W := W.tr w6
  have fw6 : σ6.2.1 386 3 = (some 389) := by rw [← ew6]; exact wR_s
  first | refine x_aload_n d_Runner_init_32 rfl rfl ?_ | refine x_aloadN_n d_Runner_init_32 rfl rfl ?_ | refine x_aloadE_n d_Runner_init_32 rfl rfl ?_ | refine x_aloadO_n d_Runner_init_32 rfl rfl ?_
  refine x_iconst (v := -1) d_Runner_init_33 (by decide) ?_
  refine x_putI d_Runner_init_34 (w_Runner_init_23 _) rfl (by first | rfl | decide) (by first | rfl | decide) (by assumption) ?_
  generalize ew7 : wI σ6 386 4 (-1) = σ7
  have w7 : Nw Γ5 σ6 (Is 386) 0 Γ5 σ7 := by rw [← ew7]; exact Nw.wI
  have aw1 := w7.sh aw1
  have pw2 := pw2.nw w7 (by first | exact no0 | exact Is.no (by omega)) (by first | exact no0 | exact Is.no (by omega))
  have aw4 := w7.sh aw4
  have pw5 := pw5.nw w7 (by first | exact no0 | exact Is.no (by omega)) (by first | exact no0 | exact Is.no (by omega))
  have fw3 : σ7.2.1 386 2 = (some 387) := by rw [← ew7]; exact fw3
  have fw6 : σ7.2.1 386 3 = (some 389) := by rw [← ew7]; exact fw6
  have hL := w7.len hL
  have hT := w7.sh hT
  have W := W.tr w7
  have fw7 : σ7.1 386 4 = (-1) := by rw [← ew7]; exact wI_s
  first | refine x_aload_n d_Runner_init_37 rfl rfl ?_ | refine x_aloadN_n d_Runner_init_37 rfl rfl ?_ | refine x_aloadE_n d_Runner_init_37 rfl rfl ?_ | refine x_aloadO_n d_Runner_init_37 rfl rfl ?_
  refine x_iconst (v := 0) d_Runner_init_38 (by decide) ?_
  refine x_putI d_Runner_init_39 (w_Runner_init_27 _) rfl (by first | rfl | decide) (by first | rfl | decide) (by assumption) ?_
  generalize ew8 : wI σ7 386 5 0 = σ8
  have w8 : Nw Γ5 σ7 (Is 386) 0 Γ5 σ8 := by rw [← ew8]; exact Nw.wI
  have aw1 := w8.sh aw1
  have pw2 := pw2.nw w8 (by first | exact no0 | exact Is.no (by omega)) (by first | exact no0 | exact Is.no (by omega))
  have aw4 := w8.sh aw4
  have pw5 := pw5.nw w8 (by first | exact no0 | exact Is.no (by omega)) (by first | exact no0 | exact Is.no (by omega))
  have fw3 : σ8.2.1 386 2 = (some 387) := by rw [← ew8]; exact fw3
  have fw6 : σ8.2.1 386 3 = (some 389) := by rw [← ew8]; exact fw6
  have fw7 : σ8.1 386 4 = (-1) := by rw [← ew8, wI_j (by decide)]; exact fw7
  have hL := w8.len hL
  have hT := w8.sh hT
  have W := W.tr w8
  have fw8 : σ8.1 386 5 = 0 := by rw [← ew8]; exact wI_s
  first | refine x_aload_n d_Runner_init_42 rfl rfl ?_ | refine x_aloadN_n d_Runner_init_42 rfl rfl ?_ | refine x_aloadE_n d_Runner_init_42 rfl rfl ?_ | refine x_aloadO_n d_Runner_init_42 rfl rfl ?_
  first | refine x_aload_n d_Runner_init_43 rfl rfl ?_ | refine x_aloadN_n d_Runner_init_43 rfl rfl ?_ | refine x_aloadE_n d_Runner_init_43 rfl rfl ?_ | refine x_aloadO_n d_Runner_init_43 rfl rfl ?_
  first | refine x_putR d_Runner_init_44 w_Runner_init_30 rfl (by assumption) ?_ | refine x_putN d_Runner_init_44 w_Runner_init_30 rfl (by assumption) ?_ | refine x_putQ d_Runner_init_44 w_Runner_init_30 rfl (by assumption) ?_
  generalize ew9 : wR σ8 386 0 (some 27) = σ9
  have w9 : Nw Γ5 σ8 (Is 386) 0 Γ5 σ9 := by rw [← ew9]; exact Nw.wR
  have aw1 := w9.sh aw1
  have pw2 := pw2.nw w9 (by first | exact no0 | exact Is.no (by omega)) (by first | exact no0 | exact Is.no (by omega))
  have aw4 := w9.sh aw4
  have pw5 := pw5.nw w9 (by first | exact no0 | exact Is.no (by omega)) (by first | exact no0 | exact Is.no (by omega))
  have fw3 : σ9.2.1 386 2 = (some 387) := by rw [← ew9, wR_j (by decide)]; exact fw3
  have fw6 : σ9.2.1 386 3 = (some 389) := by rw [← ew9, wR_j (by decide)]; exact fw6
  have fw7 : σ9.1 386 4 = (-1) := by rw [← ew9]; exact fw7
  have fw8 : σ9.1 386 5 = 0 := by rw [← ew9]; exact fw8
  have hL := w9.len hL
  have hT := w9.sh hT
  have W := W.tr w9
  have fw9 : σ9.2.1 386 0 = (some 27) := by rw [← ew9]; exact wR_s
  first | refine x_aload_n d_Runner_init_47 rfl rfl ?_ | refine x_aloadN_n d_Runner_init_47 rfl rfl ?_ | refine x_aloadE_n d_Runner_init_47 rfl rfl ?_ | refine x_aloadO_n d_Runner_init_47 rfl rfl ?_
  first | refine x_aload_n d_Runner_init_48 rfl rfl ?_ | refine x_aloadN_n d_Runner_init_48 rfl rfl ?_ | refine x_aloadE_n d_Runner_init_48 rfl rfl ?_ | refine x_aloadO_n d_Runner_init_48 rfl rfl ?_
  first | refine x_putR d_Runner_init_49 w_Runner_init_34 rfl (by assumption) ?_ | refine x_putN d_Runner_init_49 w_Runner_init_34 rfl (by assumption) ?_ | refine x_putQ d_Runner_init_49 w_Runner_init_34 rfl (by assumption) ?_
  generalize ew10 : wR σ9 386 1 (some 22) = σ10
  have w10 : Nw Γ5 σ9 (Is 386) 0 Γ5 σ10 := by rw [← ew10]; exact Nw.wR
  have aw1 := w10.sh aw1
  have pw2 := pw2.nw w10 (by first | exact no0 | exact Is.no (by omega)) (by first | exact no0 | exact Is.no (by omega))
  have aw4 := w10.sh aw4
  have pw5 := pw5.nw w10 (by first | exact no0 | exact Is.no (by omega)) (by first | exact no0 | exact Is.no (by omega))
  have fw3 : σ10.2.1 386 2 = (some 387) := by rw [← ew10, wR_j (by decide)]; exact fw3
  have fw6 : σ10.2.1 386 3 = (some 389) := by rw [← ew10, wR_j (by decide)]; exact fw6
  have fw7 : σ10.1 386 4 = (-1) := by rw [← ew10]; exact fw7
  have fw8 : σ10.1 386 5 = 0 := by rw [← ew10]; exact fw8
  have fw9 : σ10.2.1 386 0 = (some 27) := by rw [← ew10, wR_j (by decide)]; exact fw9
  have hL := w10.len hL
  have hT := w10.sh hT
  have W := W.tr w10
  have fw10 : σ10.2.1 386 1 = (some 22) := by rw [← ew10]; exact wR_s
  exact x_return d_Runner_init_52 rfl (hQ _ _ W (⟨387, 389, hT, fw9, fw10, Or.inl ⟨rfl, rfl⟩, fw3, fw6, pw2, ⟨_, pw5⟩, fw7, by rw [fw8]; exact nI_0.symm⟩))
