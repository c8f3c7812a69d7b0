/-! SuperDriver$Node number n: the cells 133 + 5 n and on. ints (7 kind, 8 detail, 10 functional, 11 clause, 12 clauseVariable, 13 letVariable), links (3 above, 4 firstBelow, 5 lastBelow, 6 beside, 9 target), term, residual -/
theorem ov_cat {G : Ctx} {o : Option Nat} : (ov G o).category = 1 := by cases o <;> rfl
abbrev ND : Type := (Nat → Int32) × (Nat → Option Nat) × List Int32 × List Int32
def ntm (x : ND) : List Int32 := x.2.2.1
def nrs (x : ND) : List Int32 := x.2.2.2
def xi (x : ND) (j : Nat) (v : Int32) : ND := (upN x.1 j v, x.2)
def xr (x : ND) (j : Nat) (o : Option Nat) : ND := (x.1, upN x.2.1 j o, x.2.2)
def xt (x : ND) (l : List Int32) : ND := (x.1, x.2.1, l, x.2.2.2)
def xs (x : ND) (l : List Int32) : ND := (x.1, x.2.1, x.2.2.1, l)
def iF (j : Nat) : Bool := j == 7 || j == 8 || j == 10 || j == 11 || j == 12 || j == 13
def rF (j : Nat) : Bool := j == 3 || j == 4 || j == 5 || j == 6 || j == 9
def nc (n : Nat) : Nat := 133 + 5 * n
def inN (n a : Nat) : Prop := 133 + 5 * n ≤ a ∧ a < 138 + 5 * n
def lk48 (o : Option Nat) : Prop := ∀ m, o = some m → m < 48
theorem lk48.n : lk48 none := fun _ h => by cases h
theorem lk48.s {m : Nat} (h : m < 48) : lk48 (some m) := fun _ e => by cases e; exact h
def isNd (Γ : List Sh) (σ : Mem) (n : Nat) (x : ND) : Prop :=
  Γ[133 + 5 * n]? = some (0, 6) ∧ (σ.1 (133 + 5 * n) 0 = nI n ∧ ∀ j, iF j = true → σ.1 (133 + 5 * n) j = x.1 j) ∧
  (σ.2.1 (133 + 5 * n) 1 = some (134 + 5 * n) ∧ σ.2.1 (133 + 5 * n) 2 = some (136 + 5 * n) ∧ ∀ j, rF j = true → σ.2.1 (133 + 5 * n) j = (x.2.1 j).map nc ∧ lk48 (x.2.1 j)) ∧
  isRow Γ σ (134 + 5 * n) 40 (ntm x) ∧ isRow Γ σ (136 + 5 * n) 100 (nrs x)
theorem isNd.P {Γ : List Sh} {σ σ' : Mem} {n : Nat} {x : ND} {S : Nat → Prop} (h : isNd Γ σ n x) (hf : FrP S σ σ') (h0 : ∀ a, inN n a → ¬ S a) : isNd Γ σ' n x := by
  obtain ⟨a, b, c, d, e⟩ := h
  have hc := hf (133 + 5 * n) (h0 _ ⟨by omega, by omega⟩)
  refine ⟨a, ?_, ?_, d.P hf (h0 _ ⟨by omega, by omega⟩) (h0 _ ⟨by omega, by omega⟩), e.P hf (h0 _ ⟨by omega, by omega⟩) (h0 _ ⟨by omega, by omega⟩)⟩
  · rw [hc.1]; exact b
  · rw [hc.2.1]; exact c
theorem isNd.wI {Γ : List Sh} {σ : Mem} {n j : Nat} {x : ND} {v : Int32} (h : isNd Γ σ n x) (hj : iF j = true) : isNd Γ (wI σ (133 + 5 * n) j v) n (xi x j v) := by
  obtain ⟨a, ⟨b1, b2⟩, c, d, e⟩ := h
  have ff : Fr [133 + 5 * n] σ (_root_.Jvm.Pilot.CSuperDriverLaw_law_r9078_2f07ff.wI σ (133 + 5 * n) j v) := Fr.rf.wI (by simp <;> omega)
  refine ⟨a, ⟨?_, fun i hi => ?_⟩, c, d.Fr ff (by simp <;> omega) (by simp <;> omega), e.Fr ff (by simp <;> omega) (by simp <;> omega)⟩
  · rw [wI_j (fun z => by rw [← z] at hj; cases hj)]; exact b1
  · by_cases z : i = j
    · subst z; rw [wI_s]; simp [xi, upN]
    · rw [wI_j z, b2 i hi]; simp [xi, upN, z]
theorem isNd.wR {Γ : List Sh} {σ : Mem} {n j : Nat} {x : ND} {o : Option Nat} (h : isNd Γ σ n x) (hj : rF j = true) (ho : lk48 o) : isNd Γ (wR σ (133 + 5 * n) j (o.map nc)) n (xr x j o) := by
  obtain ⟨a, b, ⟨c1, c2, c3⟩, d, e⟩ := h
  have ff : Fr [133 + 5 * n] σ (_root_.Jvm.Pilot.CSuperDriverLaw_law_r9078_2f07ff.wR σ (133 + 5 * n) j (o.map nc)) := Fr.rf.wR (by simp <;> omega)
  refine ⟨a, b, ⟨?_, ?_, fun i hi => ?_⟩, d.Fr ff (by simp <;> omega) (by simp <;> omega), e.Fr ff (by simp <;> omega) (by simp <;> omega)⟩
  · rw [wR_j (fun z => by rw [← z] at hj; cases hj)]; exact c1
  · rw [wR_j (fun z => by rw [← z] at hj; cases hj)]; exact c2
  · by_cases z : i = j
    · subst z; rw [wR_s]; simp [xr, upN]; exact ho
    · rw [wR_j z]; simp [xr, upN, z]; exact c3 i hi
theorem isNd.t {Γ : List Sh} {σ σ' : Mem} {n : Nat} {x : ND} {l : List Int32} (h : isNd Γ σ n x) (hr : isRow Γ σ' (134 + 5 * n) 40 l) (hf : FrI [134 + 5 * n, 134 + 5 * n + 1] σ σ') : isNd Γ σ' n (xt x l) := by
  obtain ⟨a, b, c, d, e⟩ := h
  exact ⟨a, by rw [hf.2 _ (by simp <;> omega)]; exact b, by rw [hf.1]; exact c, hr, e.fr hf (by simp <;> omega) (by simp <;> omega)⟩
theorem isNd.s {Γ : List Sh} {σ σ' : Mem} {n : Nat} {x : ND} {l : List Int32} (h : isNd Γ σ n x) (hr : isRow Γ σ' (136 + 5 * n) 100 l) (hf : FrI [136 + 5 * n, 136 + 5 * n + 1] σ σ') : isNd Γ σ' n (xs x l) := by
  obtain ⟨a, b, c, d, e⟩ := h
  exact ⟨a, by rw [hf.2 _ (by simp <;> omega)]; exact b, by rw [hf.1]; exact c, d.fr hf (by simp <;> omega) (by simp <;> omega), hr⟩
def nBecome (x : ND) (k v : Int32) : ND := xi (xr (xi (xi x 7 k) 8 v) 9 none) 10 0
def nDrop (x : ND) : ND := xr (xr x 4 none) 5 none
def nOpen (x : ND) (ab : Option Nat) (l : List Int32) : ND := nBecome (xi (xi (xi (nDrop (xr (xr (xs (xt x l) []) 3 ab) 6 none)) 11 (-1)) 12 (-1)) 13 (-1)) 8 (-1)
theorem Fr.N {n : Nat} {σ σ' : Mem} {S : List Nat} (h : Fr S σ σ') (hs : ∀ a ∈ S, inN n a) : FrP (inN n) σ σ' := h.P hs
set_option maxRecDepth 10000 in
set_option maxHeartbeats 1000000 in
theorem c_Node_become {G : Ctx} {d : Nat} {Γ : List Sh} {σ : Mem} {Q : Option Value → List Sh → Mem → Prop} {n : Nat} {x : ND} {k v : Int32} (hN : isNd Γ σ n x) (hQ : ∀ σ', isNd Γ σ' n (nBecome x k v) → Fr [133 + 5 * n] σ σ' → Q none Γ σ') : Ct G M_Node_become d 0 0 [rf G (133 + 5 * n), .int k, .int v] Γ σ Q := by
  obtain ⟨n0, ⟨i0, ii⟩, ⟨q1, q2, qq⟩, nt, nr⟩ := id hN
  refine Ct.of (lv := [some (rf G (133 + 5 * n)), some (.int k), some (.int v)]) (ll := []) rfl rfl (EN.cat (n := 0) ⟨rfl, rfl, rfl, trivial⟩ (Nat.le_of_ble_eq_true rfl)) ?_
  first | refine x_aload_n d_Node_become_0 rfl rfl ?_ | refine x_aloadN_n d_Node_become_0 rfl rfl ?_ | refine x_aloadE_n d_Node_become_0 rfl rfl ?_ | refine x_aloadO_n d_Node_become_0 rfl rfl ?_
  refine x_iload_n d_Node_become_1 rfl rfl ?_
  refine x_putI d_Node_become_2 (w_Node_m_57 _) rfl (by first | rfl | decide) (by first | rfl | decide) (by assumption) ?_
  first | refine x_aload_n d_Node_become_5 rfl rfl ?_ | refine x_aloadN_n d_Node_become_5 rfl rfl ?_ | refine x_aloadE_n d_Node_become_5 rfl rfl ?_ | refine x_aloadO_n d_Node_become_5 rfl rfl ?_
  refine x_iload_n d_Node_become_6 rfl rfl ?_
  refine x_putI d_Node_become_7 (w_Node_m_60 _) rfl (by first | rfl | decide) (by first | rfl | decide) (by assumption) ?_
  first | refine x_aload_n d_Node_become_10 rfl rfl ?_ | refine x_aloadN_n d_Node_become_10 rfl rfl ?_ | refine x_aloadE_n d_Node_become_10 rfl rfl ?_ | refine x_aloadO_n d_Node_become_10 rfl rfl ?_
  refine x_null d_Node_become_11 ?_
  first | refine x_putR d_Node_become_12 (w_Node_m_63 _) rfl (by assumption) ?_ | refine x_putN d_Node_become_12 (w_Node_m_63 _) rfl (by assumption) ?_ | refine x_putQ d_Node_become_12 (w_Node_m_63 _) rfl (by assumption) ?_
  first | refine x_aload_n d_Node_become_15 rfl rfl ?_ | refine x_aloadN_n d_Node_become_15 rfl rfl ?_ | refine x_aloadE_n d_Node_become_15 rfl rfl ?_ | refine x_aloadO_n d_Node_become_15 rfl rfl ?_
  refine x_iconst (v := 0) d_Node_become_16 (by decide) ?_
  refine x_putI d_Node_become_17 (w_Node_m_66 _) rfl (by first | rfl | decide) (by first | rfl | decide) (by assumption) ?_
  exact x_return d_Node_become_20 rfl (hQ _ ((((hN.wI rfl).wI rfl).wR (o := none) rfl lk48.n).wI rfl) ((((Fr.rf.wI (by simp <;> omega)).wI (by simp <;> omega)).wR (by simp <;> omega)).wI (by simp <;> omega)))
set_option maxRecDepth 10000 in
set_option maxHeartbeats 1000000 in
theorem c_Node_dropBelow {G : Ctx} {d : Nat} {Γ : List Sh} {σ : Mem} {Q : Option Value → List Sh → Mem → Prop} {n : Nat} {x : ND}  (hN : isNd Γ σ n x) (hQ : ∀ σ', isNd Γ σ' n (nDrop x) → Fr [133 + 5 * n] σ σ' → Q none Γ σ') : Ct G M_Node_dropBelow d 0 0 [rf G (133 + 5 * n)] Γ σ Q := by
  obtain ⟨n0, ⟨i0, ii⟩, ⟨q1, q2, qq⟩, nt, nr⟩ := id hN
  refine Ct.of (lv := [some (rf G (133 + 5 * n))]) (ll := []) rfl rfl (EN.cat (n := 0) ⟨rfl, trivial⟩ (Nat.le_of_ble_eq_true rfl)) ?_
  first | refine x_aload_n d_Node_dropBelow_0 rfl rfl ?_ | refine x_aloadN_n d_Node_dropBelow_0 rfl rfl ?_ | refine x_aloadE_n d_Node_dropBelow_0 rfl rfl ?_ | refine x_aloadO_n d_Node_dropBelow_0 rfl rfl ?_
  refine x_null d_Node_dropBelow_1 ?_
  first | refine x_putR d_Node_dropBelow_2 (w_Node_m_73 _) rfl (by assumption) ?_ | refine x_putN d_Node_dropBelow_2 (w_Node_m_73 _) rfl (by assumption) ?_ | refine x_putQ d_Node_dropBelow_2 (w_Node_m_73 _) rfl (by assumption) ?_
  first | refine x_aload_n d_Node_dropBelow_5 rfl rfl ?_ | refine x_aloadN_n d_Node_dropBelow_5 rfl rfl ?_ | refine x_aloadE_n d_Node_dropBelow_5 rfl rfl ?_ | refine x_aloadO_n d_Node_dropBelow_5 rfl rfl ?_
  refine x_null d_Node_dropBelow_6 ?_
  first | refine x_putR d_Node_dropBelow_7 (w_Node_m_70 _) rfl (by assumption) ?_ | refine x_putN d_Node_dropBelow_7 (w_Node_m_70 _) rfl (by assumption) ?_ | refine x_putQ d_Node_dropBelow_7 (w_Node_m_70 _) rfl (by assumption) ?_
  exact x_return d_Node_dropBelow_10 rfl (hQ _ ((hN.wR (o := none) rfl lk48.n).wR (o := none) rfl lk48.n) ((Fr.rf.wR (by simp <;> omega)).wR (by simp <;> omega)))
set_option maxRecDepth 10000 in
set_option maxHeartbeats 1000000 in
theorem c_Node_fold {G : Ctx} {d : Nat} {Γ : List Sh} {σ : Mem} {Q : Option Value → List Sh → Mem → Prop} {n m : Nat} {x y : ND}  (hN : isNd Γ σ n x) (hM : isNd Γ σ m y) (hm : m < 48) (hQ : ∀ σ', isNd Γ σ' n (xr (nBecome x 6 (nI m)) 9 (some m)) → Fr [133 + 5 * n] σ σ' → Q none Γ σ') : Ct G M_Node_fold (d + 1) 0 0 [rf G (133 + 5 * n), rf G (133 + 5 * m)] Γ σ Q := by
  obtain ⟨n0, ⟨i0, ii⟩, ⟨q1, q2, qq⟩, nt, nr⟩ := id hN
  obtain ⟨m1, ⟨m0, -⟩, -⟩ := id hM
  refine Ct.of (lv := [some (rf G (133 + 5 * n)), some (rf G (133 + 5 * m))]) (ll := []) rfl rfl (EN.cat (n := 0) ⟨rfl, rfl, trivial⟩ (Nat.le_of_ble_eq_true rfl)) ?_
  first | refine x_aload_n d_Node_fold_0 rfl rfl ?_ | refine x_aloadN_n d_Node_fold_0 rfl rfl ?_ | refine x_aloadE_n d_Node_fold_0 rfl rfl ?_ | refine x_aloadO_n d_Node_fold_0 rfl rfl ?_
  refine x_bipush (v := 6) d_Node_fold_1 (by decide) ?_
  first | refine x_aload_n d_Node_fold_3 rfl rfl ?_ | refine x_aloadN_n d_Node_fold_3 rfl rfl ?_ | refine x_aloadE_n d_Node_fold_3 rfl rfl ?_ | refine x_aloadO_n d_Node_fold_3 rfl rfl ?_
  refine x_getI d_Node_fold_4 f_Node_23 rfl (by assumption) ?_
  rw [m0]
  refine x_callV2 d_Node_fold_7 k_Node_become l_Node_53 v_Node_become rfl s_Node_become (by assumption) RoomE.m (Nat.le_of_ble_eq_true rfl) (c_Node_become hN (fun τ h1 f1 => ?_))
  first | refine x_aload_n d_Node_fold_10 rfl rfl ?_ | refine x_aloadN_n d_Node_fold_10 rfl rfl ?_ | refine x_aloadE_n d_Node_fold_10 rfl rfl ?_ | refine x_aloadO_n d_Node_fold_10 rfl rfl ?_
  first | refine x_aload_n d_Node_fold_11 rfl rfl ?_ | refine x_aloadN_n d_Node_fold_11 rfl rfl ?_ | refine x_aloadE_n d_Node_fold_11 rfl rfl ?_ | refine x_aloadO_n d_Node_fold_11 rfl rfl ?_
  first | refine x_putR d_Node_fold_12 (w_Node_m_63 _) rfl (by assumption) ?_ | refine x_putN d_Node_fold_12 (w_Node_m_63 _) rfl (by assumption) ?_ | refine x_putQ d_Node_fold_12 (w_Node_m_63 _) rfl (by assumption) ?_
  exact x_return d_Node_fold_15 rfl (hQ _ (h1.wR (o := some m) rfl (lk48.s hm)) (f1.wR (by simp <;> omega)))
set_option maxRecDepth 10000 in
set_option maxHeartbeats 1000000 in
theorem c_Node_open {G : Ctx} {d : Nat} {Γ : List Sh} {σ : Mem} {Q : Option Value → List Sh → Mem → Prop} {n r m f t : Nat} {x : ND} {ab : Option Nat} {os : List Int32}  (hN : isNd Γ σ n x) (hR : isRow Γ σ r m os) (hr : ¬ inN n r) (ha : lk48 ab) (hf : f ≤ 1000000) (ht : t ≤ 1000000) (hQ : ∀ σ', isNd Γ σ' n (nOpen x ab (((os.take m).take t).drop f)) → FrP (inN n) σ σ' → Q none Γ σ') : Ct G M_Node_open (d + 2) 0 0 [rf G (133 + 5 * n), ov G (ab.map nc), rf G r, .int (nI f), .int (nI t)] Γ σ Q := by
  obtain ⟨n0, ⟨i0, ii⟩, ⟨q1, q2, qq⟩, nt, nr⟩ := id hN
  obtain ⟨a1, a2, -⟩ := id hR
  have hr0 : ¬ (133 + 5 * n ≤ r ∧ r < 138 + 5 * n) := hr
  obtain ⟨b1, b2, -⟩ := id nt
  have hr1 : r + 1 ≠ 134 + 5 * n := fun z => by rw [z, b1] at a2; cases a2
  obtain ⟨e1, e2, -⟩ := id nr
  refine Ct.of (lv := [some (rf G (133 + 5 * n)), some (ov G (ab.map nc)), some (rf G r), some (.int (nI f)), some (.int (nI t))]) (ll := []) rfl rfl (EN.cat (n := 0) ⟨rfl, ov_cat, rfl, rfl, rfl, trivial⟩ (Nat.le_of_ble_eq_true rfl)) ?_
  first | refine x_aload_n d_Node_open_0 rfl rfl ?_ | refine x_aloadN_n d_Node_open_0 rfl rfl ?_ | refine x_aloadE_n d_Node_open_0 rfl rfl ?_ | refine x_aloadO_n d_Node_open_0 rfl rfl ?_
  refine x_getR d_Node_open_1 f_Node_14 rfl (by assumption) (by assumption) ?_
  refine x_callV0 d_Node_open_4 k_Row_clear l_Node_27 v_Row_clear rfl s_Row_clear (by assumption) RoomE.m (Nat.le_of_ble_eq_true rfl) (c_Row_clear nt (fun τ1 h1 f1 => ?_))
  first | refine x_aload_n d_Node_open_7 rfl rfl ?_ | refine x_aloadN_n d_Node_open_7 rfl rfl ?_ | refine x_aloadE_n d_Node_open_7 rfl rfl ?_ | refine x_aloadO_n d_Node_open_7 rfl rfl ?_
  refine x_getR d_Node_open_8 f_Node_14 rfl (by assumption) (by rw [f1.1]; exact q1) ?_
  first | refine x_aload_n d_Node_open_11 rfl rfl ?_ | refine x_aloadN_n d_Node_open_11 rfl rfl ?_ | refine x_aloadE_n d_Node_open_11 rfl rfl ?_ | refine x_aloadO_n d_Node_open_11 rfl rfl ?_
  refine x_iload_n d_Node_open_12 rfl rfl ?_
  refine x_iload d_Node_open_13 rfl ?_
  refine x_callV3 d_Node_open_15 k_Row_addRange l_Node_30 v_Row_addRange rfl s_Row_addRange (by assumption) RoomE.m (Nat.le_of_ble_eq_true rfl) (c_Row_addRange' rfl rfl h1 (hR.fr f1 (by simp <;> omega) (by simp <;> omega)) (by omega) hf ht (fun τ2 h2 f2 => ?_))
  rw [List.nil_append] at h2
  have f12 := (f1.mono (T := [134 + 5 * n, 134 + 5 * n + 1]) (by simp <;> omega)).tr f2
  have N2 := hN.t h2 f12
  first | refine x_aload_n d_Node_open_18 rfl rfl ?_ | refine x_aloadN_n d_Node_open_18 rfl rfl ?_ | refine x_aloadE_n d_Node_open_18 rfl rfl ?_ | refine x_aloadO_n d_Node_open_18 rfl rfl ?_
  refine x_getR d_Node_open_19 f_Node_20 rfl (by assumption) (by rw [f2.1, f1.1]; exact q2) ?_
  refine x_callV0 d_Node_open_22 k_Row_clear l_Node_27 v_Row_clear rfl s_Row_clear (by assumption) RoomE.m (Nat.le_of_ble_eq_true rfl) (c_Row_clear N2.2.2.2.2 (fun τ3 h3 f3 => ?_))
  have N3 := N2.s h3 (f3.mono (by simp <;> omega))
  first | refine x_aload_n d_Node_open_25 rfl rfl ?_ | refine x_aloadN_n d_Node_open_25 rfl rfl ?_ | refine x_aloadE_n d_Node_open_25 rfl rfl ?_ | refine x_aloadO_n d_Node_open_25 rfl rfl ?_
  first | refine x_aload_n d_Node_open_26 rfl rfl ?_ | refine x_aloadN_n d_Node_open_26 rfl rfl ?_ | refine x_aloadE_n d_Node_open_26 rfl rfl ?_ | refine x_aloadO_n d_Node_open_26 rfl rfl ?_
  first | refine x_putR d_Node_open_27 (w_Node_m_34 _) rfl (by assumption) ?_ | refine x_putN d_Node_open_27 (w_Node_m_34 _) rfl (by assumption) ?_ | refine x_putQ d_Node_open_27 (w_Node_m_34 _) rfl (by assumption) ?_
  first | refine x_aload_n d_Node_open_30 rfl rfl ?_ | refine x_aloadN_n d_Node_open_30 rfl rfl ?_ | refine x_aloadE_n d_Node_open_30 rfl rfl ?_ | refine x_aloadO_n d_Node_open_30 rfl rfl ?_
  refine x_null d_Node_open_31 ?_
  first | refine x_putR d_Node_open_32 (w_Node_m_38 _) rfl (by assumption) ?_ | refine x_putN d_Node_open_32 (w_Node_m_38 _) rfl (by assumption) ?_ | refine x_putQ d_Node_open_32 (w_Node_m_38 _) rfl (by assumption) ?_
  have N4 := (N3.wR (o := ab) (j := 3) rfl ha).wR (o := none) (j := 6) rfl lk48.n
  first | refine x_aload_n d_Node_open_35 rfl rfl ?_ | refine x_aloadN_n d_Node_open_35 rfl rfl ?_ | refine x_aloadE_n d_Node_open_35 rfl rfl ?_ | refine x_aloadO_n d_Node_open_35 rfl rfl ?_
  refine x_callV0 d_Node_open_36 k_Node_dropBelow l_Node_41 v_Node_dropBelow rfl s_Node_dropBelow (by assumption) RoomE.m (Nat.le_of_ble_eq_true rfl) (c_Node_dropBelow N4 (fun τ5 N5 f5 => ?_))
  first | refine x_aload_n d_Node_open_39 rfl rfl ?_ | refine x_aloadN_n d_Node_open_39 rfl rfl ?_ | refine x_aloadE_n d_Node_open_39 rfl rfl ?_ | refine x_aloadO_n d_Node_open_39 rfl rfl ?_
  refine x_iconst (v := -1) d_Node_open_40 (by decide) ?_
  refine x_putI d_Node_open_41 (w_Node_m_44 _) rfl (by first | rfl | decide) (by first | rfl | decide) (by assumption) ?_
  first | refine x_aload_n d_Node_open_44 rfl rfl ?_ | refine x_aloadN_n d_Node_open_44 rfl rfl ?_ | refine x_aloadE_n d_Node_open_44 rfl rfl ?_ | refine x_aloadO_n d_Node_open_44 rfl rfl ?_
  refine x_iconst (v := -1) d_Node_open_45 (by decide) ?_
  refine x_putI d_Node_open_46 (w_Node_m_47 _) rfl (by first | rfl | decide) (by first | rfl | decide) (by assumption) ?_
  first | refine x_aload_n d_Node_open_49 rfl rfl ?_ | refine x_aloadN_n d_Node_open_49 rfl rfl ?_ | refine x_aloadE_n d_Node_open_49 rfl rfl ?_ | refine x_aloadO_n d_Node_open_49 rfl rfl ?_
  refine x_iconst (v := -1) d_Node_open_50 (by decide) ?_
  refine x_putI d_Node_open_51 (w_Node_m_50 _) rfl (by first | rfl | decide) (by first | rfl | decide) (by assumption) ?_
  first | refine x_aload_n d_Node_open_54 rfl rfl ?_ | refine x_aloadN_n d_Node_open_54 rfl rfl ?_ | refine x_aloadE_n d_Node_open_54 rfl rfl ?_ | refine x_aloadO_n d_Node_open_54 rfl rfl ?_
  refine x_bipush (v := 8) d_Node_open_55 (by decide) ?_
  refine x_iconst (v := -1) d_Node_open_57 (by decide) ?_
  refine x_callV2 d_Node_open_58 k_Node_become l_Node_53 v_Node_become rfl s_Node_become (by assumption) RoomE.m (Nat.le_of_ble_eq_true rfl) (c_Node_become (((N5.wI rfl).wI rfl).wI rfl) (fun τ6 N6 f6 => ?_))
  exact x_return d_Node_open_61 rfl (hQ _ N6 (by
    have g1 : FrP (inN n) σ τ3 := (f12.P (by simp [inN] <;> omega)).tr (f3.P (by simp [inN] <;> omega))
    have g2 := (g1.wR (j := 3) (v := ab.map nc) (show inN n (133 + 5 * n) from ⟨by omega, by omega⟩)).wR (j := 6) (v := none) (show inN n (133 + 5 * n) from ⟨by omega, by omega⟩)
    have g3 := g2.tr (f5.P (T := inN n) (by simp [inN] <;> omega))
    exact (((g3.wI ⟨by omega, by omega⟩).wI ⟨by omega, by omega⟩).wI ⟨by omega, by omega⟩).tr (f6.P (by simp [inN] <;> omega))))
