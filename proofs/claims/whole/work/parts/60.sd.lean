/-! SuperDriver at cell 0, its parts in the cells 1 to 390: text, goal, inputs, parts and cased of the signs, bodies, tree, the run's row, how it ended, steps -/
abbrev CS : Type := List Int32 × List Int32 × (Nat → List Int32) × (Nat → Int32) × (Nat → Bool) × (Nat → List Int32) × TS × List Int32 × Int32 × Nat
def kT (X : CS) : List Int32 := X.1
def kG (X : CS) : List Int32 := X.2.1
def kI (X : CS) : Nat → List Int32 := X.2.2.1
def kP (X : CS) : Nat → Int32 := X.2.2.2.1
def kC (X : CS) : Nat → Bool := X.2.2.2.2.1
def kB (X : CS) : Nat → List Int32 := X.2.2.2.2.2.1
def kR (X : CS) : TS := X.2.2.2.2.2.2.1
def kY (X : CS) : List Int32 := X.2.2.2.2.2.2.2.1
def kE (X : CS) : Int32 := X.2.2.2.2.2.2.2.2.1
def kM (X : CS) : Nat := X.2.2.2.2.2.2.2.2.2
def isSD (Γ : List Sh) (σ : Mem) : Prop := Γ[0]? = some (0, 0) ∧ σ.2.1 0 0 = some 1 ∧ σ.2.1 0 1 = some 3 ∧ σ.2.1 0 2 = some 5 ∧ σ.2.1 0 3 = some 27 ∧ σ.2.1 0 4 = some 33 ∧ σ.2.1 0 5 = some 131 ∧ σ.2.1 0 6 = some 373 ∧ σ.2.1 0 7 = some 385 ∧ σ.2.1 0 8 = some 386
def isCS (Γ : List Sh) (σ : Mem) (K : Nat) (X : CS) : Prop := isSD Γ σ ∧ (isRow Γ σ 1 24 (kT X) ∧ (kT X).length ≤ 24) ∧ (isRow Γ σ 3 24 (kG X) ∧ (kG X).length ≤ 24) ∧ isInp Γ σ (kI X) ∧ isSb Γ σ K ∧ isSg Γ σ 27 (kP X) (kC X) ∧ isSrc Γ σ 33 27 22 (kB X) ∧ isTree Γ σ (kR X) ∧ isDrv Γ σ ∧ (∃ S, isGen Γ σ S) ∧ isRes Γ σ ∧ isRun Γ σ (kY X) (kE X) (kM X)
theorem isSD.P {Γ : List Sh} {σ σ' : Mem} {F : Nat → Prop} (h : isSD Γ σ) (hf : FrP F σ σ') (h0 : ¬ F 0) : isSD Γ σ' := by
  unfold isSD at h ⊢
  rw [(hf 0 h0).2.1]
  exact h
theorem isCS.P {Γ : List Sh} {σ σ' : Mem} {K : Nat} {X : CS} {F : Nat → Prop} (h : isCS Γ σ K X) (hf : FrP F σ σ') (h0 : ∀ a, a ≤ 390 → ¬ F a) : isCS Γ σ' K X := by
  obtain ⟨a1, ⟨a2, b2⟩, ⟨a3, b3⟩, a4, a5, a6, a7, a8, a9, ⟨S, a10⟩, a11, a12⟩ := h
  have hz : ∀ a, a ≤ 390 → ¬ F a := h0
  exact ⟨a1.P hf (h0 _ (by omega)), ⟨a2.P hf (h0 _ (by omega)) (h0 _ (by omega)), b2⟩, ⟨a3.P hf (h0 _ (by omega)) (h0 _ (by omega)), b3⟩, a4.P hf (fun a h1 h2 => h0 a (by omega)), a5.P hf (fun a h1 h2 => h0 a (by omega)), a6.P hf (h0 _ (by omega)) (h0 _ (by omega)) (h0 _ (by omega)), a7.P hf (fun a h1 h2 => h0 a (by omega)), a8.P hf (fun a h1 => h0 a (by unfold inT at h1; omega)), a9.P hf (fun a h1 => h0 a (by unfold inD at h1; omega)), ⟨S, a10.P hf (fun a h1 => h0 a (by unfold inG at h1; omega))⟩, a11.P hf (h0 _ (by omega)), a12.P hf (fun a h1 => h0 a (by unfold inR at h1; omega))⟩
def inCS (a : Nat) : Prop := a ≤ 390
/-! one thing changes -/
theorem isCS.text {Γ : List Sh} {σ σ' : Mem} {K : Nat} {X : CS} {ys : List Int32} (h : isCS Γ σ K X) (hf : FrI [1, 2] σ σ') (hr : isRow Γ σ' 1 24 ys) (hl : ys.length ≤ 24) : isCS Γ σ' K (ys, X.2) := by
  obtain ⟨a1, -, ⟨a3, b3⟩, a4, a5, a6, a7, a8, a9, ⟨S, a10⟩, a11, a12⟩ := h
  have hf' : FrP (fun a => a = 1 ∨ a = 2) σ σ' := hf.P (by simp)
  exact ⟨a1.P hf' (by omega), ⟨hr, hl⟩, ⟨a3.P hf' (by omega) (by omega), b3⟩, a4.P hf' (fun a h1 h2 => by omega), a5.P hf' (fun a h1 h2 => by omega), a6.P hf' (by omega) (by omega) (by omega), a7.P hf' (fun a h1 h2 => by omega), a8.P hf' (fun a h1 => by unfold inT at h1; omega), a9.P hf' (fun a h1 => by unfold inD at h1; omega), ⟨S, a10.P hf' (fun a h1 => by unfold inG at h1; omega)⟩, a11.P hf' (by omega), a12.P hf' (fun a h1 => by unfold inR at h1; omega)⟩
theorem isCS.goal {Γ : List Sh} {σ σ' : Mem} {K : Nat} {X : CS} {ys : List Int32} (h : isCS Γ σ K X) (hf : FrI [3, 4] σ σ') (hr : isRow Γ σ' 3 24 ys) (hl : ys.length ≤ 24) : isCS Γ σ' K (X.1, ys, X.2.2) := by
  obtain ⟨a1, ⟨a2, b2⟩, -, a4, a5, a6, a7, a8, a9, ⟨S, a10⟩, a11, a12⟩ := h
  have hf' : FrP (fun a => a = 3 ∨ a = 4) σ σ' := hf.P (by simp)
  exact ⟨a1.P hf' (by omega), ⟨a2.P hf' (by omega) (by omega), b2⟩, ⟨hr, hl⟩, a4.P hf' (fun a h1 h2 => by omega), a5.P hf' (fun a h1 h2 => by omega), a6.P hf' (by omega) (by omega) (by omega), a7.P hf' (fun a h1 h2 => by omega), a8.P hf' (fun a h1 => by unfold inT at h1; omega), a9.P hf' (fun a h1 => by unfold inD at h1; omega), ⟨S, a10.P hf' (fun a h1 => by unfold inG at h1; omega)⟩, a11.P hf' (by omega), a12.P hf' (fun a h1 => by unfold inR at h1; omega)⟩
theorem isCS.inp {Γ : List Sh} {σ σ' : Mem} {K v : Nat} {X : CS} {ys : List Int32} (h : isCS Γ σ K X) (hv : v < 8) (hf : FrI [6 + 2 * v, 6 + 2 * v + 1] σ σ') (hr : isRow Γ σ' (6 + 2 * v) 24 ys) (hl : ys.length ≤ 24) : isCS Γ σ' K (X.1, X.2.1, upN X.2.2.1 v ys, X.2.2.2) := by
  obtain ⟨a1, ⟨a2, b2⟩, ⟨a3, b3⟩, a4, a5, a6, a7, a8, a9, ⟨S, a10⟩, a11, a12⟩ := h
  have hf' : FrP (fun a => a = 6 + 2 * v ∨ a = 6 + 2 * v + 1) σ σ' := hf.P (by simp)
  refine ⟨a1.P hf' (by omega), ⟨a2.P hf' (by omega) (by omega), b2⟩, ⟨a3.P hf' (by omega) (by omega), b3⟩, ⟨a4.1, fun w hw => ⟨by rw [hf.1]; exact (a4.2 w hw).1, ?_⟩⟩, a5.P hf' (fun a h1 h2 => by omega), a6.P hf' (by omega) (by omega) (by omega), a7.P hf' (fun a h1 h2 => by omega), a8.P hf' (fun a h1 => by unfold inT at h1; omega), a9.P hf' (fun a h1 => by unfold inD at h1; omega), ⟨S, a10.P hf' (fun a h1 => by unfold inG at h1; omega)⟩, a11.P hf' (by omega), a12.P hf' (fun a h1 => by unfold inR at h1; omega)⟩
  show isRow Γ σ' (6 + 2 * w) 24 (upN X.2.2.1 v ys w) ∧ (upN X.2.2.1 v ys w).length ≤ 24
  by_cases e : w = v
  · subst e
    rw [show upN X.2.2.1 w ys w = ys by simp [upN]]
    exact ⟨hr, hl⟩
  · rw [show upN X.2.2.1 v ys w = X.2.2.1 w by simp [upN, e]]
    exact ⟨(a4.2 w hw).2.1.P hf' (by omega) (by omega), (a4.2 w hw).2.2⟩
theorem isCS.tree {Γ : List Sh} {σ σ' : Mem} {K : Nat} {X : CS} {T : TS} (h : isCS Γ σ K X) (hf : FrP inT σ σ') (hr : isTree Γ σ' T) : isCS Γ σ' K (X.1, X.2.1, X.2.2.1, X.2.2.2.1, X.2.2.2.2.1, X.2.2.2.2.2.1, T, X.2.2.2.2.2.2.2) := by
  obtain ⟨a1, ⟨a2, b2⟩, ⟨a3, b3⟩, a4, a5, a6, a7, a8, a9, ⟨S, a10⟩, a11, a12⟩ := h
  exact ⟨a1.P hf (by unfold inT; omega), ⟨a2.P hf (by unfold inT; omega) (by unfold inT; omega), b2⟩, ⟨a3.P hf (by unfold inT; omega) (by unfold inT; omega), b3⟩, a4.P hf (fun a h1 h2 => by unfold inT; omega), a5.P hf (fun a h1 h2 => by unfold inT; omega), sg_T a6 hf, a7.P hf (fun a h1 h2 => by unfold inT; omega), hr, a9.T hf, ⟨S, a10.T hf⟩, a11.P hf (by unfold inT; omega), a12.P hf (fun a h1 => by unfold inR at h1; unfold inT; omega)⟩
theorem t131 {σ σ' : Mem} (h : Fr [131] σ σ') : FrP inT σ σ' := h.T (by simp; exact i131)
theorem tk24 {l : List Int32} (h : l.length ≤ 24) : l.take 24 = l := List.take_of_length_le h
set_option maxRecDepth 10000 in
set_option maxHeartbeats 1000000 in
theorem c_SD_wipe {G : Ctx} {d : Nat} {Γ : List Sh} {σ : Mem} {Q : Option Value → List Sh → Mem → Prop} {K : Nat} {X : CS}  (hX : isCS Γ σ K X) (hQ : ∀ σ', isCS Γ σ' K ([], X.2) → FrP inCS σ σ' → Q none Γ σ') : Ct G M_SD_wipe (d + 1) 0 0 [rf G 0] Γ σ Q := by
  obtain ⟨⟨o0, o1, o2, o3, o4, o5, o6, o7, o8, o9⟩, ⟨xt, xtl⟩, ⟨xg, xgl⟩, xi, xb, xs, xr, xT, xD, ⟨S, xG⟩, xR, ⟨ra, rb, xN⟩⟩ := id hX

  refine Ct.of (lv := [some (rf G 0)]) (ll := []) rfl rfl (EN.cat (n := 0) ⟨rfl, trivial⟩ (Nat.le_of_ble_eq_true rfl)) ?_
  first | refine x_aload_n d_SD_wipe_0 rfl rfl ?_ | refine x_aloadN_n d_SD_wipe_0 rfl rfl ?_ | refine x_aloadE_n d_SD_wipe_0 rfl rfl ?_ | refine x_aloadO_n d_SD_wipe_0 rfl rfl ?_
  refine x_getR d_SD_wipe_1 f_SD_14 rfl (by assumption) (o1) ?_
  refine x_callV0 d_SD_wipe_4 k_Row_clear l_SD_91 v_Row_clear rfl s_Row_clear (by exact xt.1) RoomE.m (Nat.le_of_ble_eq_true rfl) (c_Row_clear xt (fun τ1 r1 f1 => ?_))
  exact x_return d_SD_wipe_7 rfl (hQ τ1 (hX.text (f1.mono (by simp)) r1 (Nat.zero_le _)) (f1.P (by simp [inCS])))
set_option maxRecDepth 10000 in
set_option maxHeartbeats 1000000 in
theorem c_SD_steps {G : Ctx} {d : Nat} {Γ : List Sh} {σ : Mem} {Q : Option Value → List Sh → Mem → Prop} {K : Nat} {X : CS}  (hX : isCS Γ σ K X) (hQ : Q (some (.int (nI (kM X)))) Γ σ) : Ct G M_SD_steps (d + 1) 0 0 [rf G 0] Γ σ Q := by
  obtain ⟨⟨o0, o1, o2, o3, o4, o5, o6, o7, o8, o9⟩, ⟨xt, xtl⟩, ⟨xg, xgl⟩, xi, xb, xs, xr, xT, xD, ⟨S, xG⟩, xR, ⟨ra, rb, xN⟩⟩ := id hX

  refine Ct.of (lv := [some (rf G 0)]) (ll := []) rfl rfl (EN.cat (n := 0) ⟨rfl, trivial⟩ (Nat.le_of_ble_eq_true rfl)) ?_
  first | refine x_aload_n d_SD_steps_0 rfl rfl ?_ | refine x_aloadN_n d_SD_steps_0 rfl rfl ?_ | refine x_aloadE_n d_SD_steps_0 rfl rfl ?_ | refine x_aloadO_n d_SD_steps_0 rfl rfl ?_
  refine x_getR d_SD_steps_1 f_SD_72 rfl (by assumption) (o9) ?_
  refine x_callV0 d_SD_steps_4 k_Runner_stepsMade l_SD_222 v_Runner_stepsMade rfl s_Runner_stepsMade (by exact xN.1) RoomE.m (Nat.le_of_ble_eq_true rfl) (c_Runner_stepsMade xN ?_)
  exact x_ireturn d_SD_steps_7 rfl rfl hQ
set_option maxRecDepth 10000 in
set_option maxHeartbeats 1000000 in
theorem c_SD_result {G : Ctx} {d : Nat} {Γ : List Sh} {σ : Mem} {Q : Option Value → List Sh → Mem → Prop} {K : Nat} {X : CS} {i : Int32}  (hX : isCS Γ σ K X) (hQ : Q (some (.int (cAt (kY X) (kE X) i))) Γ σ) : Ct G M_SD_result (d + 2) 0 0 [rf G 0, .int i] Γ σ Q := by
  obtain ⟨⟨o0, o1, o2, o3, o4, o5, o6, o7, o8, o9⟩, ⟨xt, xtl⟩, ⟨xg, xgl⟩, xi, xb, xs, xr, xT, xD, ⟨S, xG⟩, xR, ⟨ra, rb, xN⟩⟩ := id hX

  refine Ct.of (lv := [some (rf G 0), some (.int i)]) (ll := []) rfl rfl (EN.cat (n := 0) ⟨rfl, rfl, trivial⟩ (Nat.le_of_ble_eq_true rfl)) ?_
  first | refine x_aload_n d_SD_result_0 rfl rfl ?_ | refine x_aloadN_n d_SD_result_0 rfl rfl ?_ | refine x_aloadE_n d_SD_result_0 rfl rfl ?_ | refine x_aloadO_n d_SD_result_0 rfl rfl ?_
  refine x_getR d_SD_result_1 f_SD_72 rfl (by assumption) (o9) ?_
  refine x_iload_n d_SD_result_4 rfl rfl ?_
  refine x_callV1 d_SD_result_5 k_Runner_constructorAt l_SD_219 v_Runner_constructorAt rfl s_Runner_constructorAt (by exact xN.1) RoomE.m (Nat.le_of_ble_eq_true rfl) (c_Runner_constructorAt xN ?_)
  exact x_ireturn d_SD_result_8 rfl rfl hQ
def inpOK (X : CS) (v : Int32) : Bool := if v < 0 then false else if 8 ≤ v then false else (kT X).all isK && trm (sgP (kP X)) (kT X) 1
def csInp (X : CS) (v : Int32) : CS := if inpOK X v = true then ([], X.2.1, upN X.2.2.1 v.toNatClampNeg (kT X), X.2.2.2) else X
set_option maxRecDepth 10000 in
set_option maxHeartbeats 1000000 in
theorem c_SD_input {G : Ctx} {d : Nat} {Γ : List Sh} {σ : Mem} {Q : Option Value → List Sh → Mem → Prop} {K : Nat} {X : CS} {v : Int32}  (hX : isCS Γ σ K X) (hQ : ∀ σ', isCS Γ σ' K (csInp X v) → FrP inCS σ σ' → Q (some (.int (bI (inpOK X v)))) Γ σ') : Ct G M_SD_input (d + 3) 0 0 [rf G 0, .int v] Γ σ Q := by
  obtain ⟨⟨o0, o1, o2, o3, o4, o5, o6, o7, o8, o9⟩, ⟨xt, xtl⟩, ⟨xg, xgl⟩, xi, xb, xs, xr, xT, xD, ⟨S, xG⟩, xR, ⟨ra, rb, xN⟩⟩ := id hX

  refine Ct.of (lv := [some (rf G 0), some (.int v)]) (ll := []) rfl rfl (EN.cat (n := 0) ⟨rfl, rfl, trivial⟩ (Nat.le_of_ble_eq_true rfl)) ?_
  refine x_iload_n d_SD_input_0 rfl rfl ?_
  refine x_if_lt (tgt := 24) d_SD_input_1 (by decide) (fun c1 => ?_) (fun c1 => ?_)
  · refine x_iconst (v := 0) d_SD_input_24 (by decide) ?_
    exact x_ireturn d_SD_input_25 rfl (by decide) (by
      have hb : inpOK X v = false := by
        unfold inpOK
        first
        | rw [if_pos c1]
        | rw [if_neg c1, if_pos c7]
        | (rw [if_neg c1, if_neg c7, ← tk24 xtl]; exact bI_0 c21)
      have hq := hQ σ (by rw [csInp, hb, if_neg (by decide)]; exact hX) FrP.rf
      rw [hb] at hq
      exact hq)
  · refine x_iload_n d_SD_input_4 rfl rfl ?_
    refine x_bipush (v := 8) d_SD_input_5 (by decide) ?_
    refine x_icmp_ge (tgt := 24) d_SD_input_7 (by decide) (fun c7 => ?_) (fun c7 => ?_)
    · refine x_iconst (v := 0) d_SD_input_24 (by decide) ?_
      exact x_ireturn d_SD_input_25 rfl (by decide) (by
        have hb : inpOK X v = false := by
          unfold inpOK
          first
          | rw [if_pos c1]
          | rw [if_neg c1, if_pos c7]
          | (rw [if_neg c1, if_neg c7, ← tk24 xtl]; exact bI_0 c21)
        have hq := hQ σ (by rw [csInp, hb, if_neg (by decide)]; exact hX) FrP.rf
        rw [hb] at hq
        exact hq)
    · first | refine x_aload_n d_SD_input_10 rfl rfl ?_ | refine x_aloadN_n d_SD_input_10 rfl rfl ?_ | refine x_aloadE_n d_SD_input_10 rfl rfl ?_ | refine x_aloadO_n d_SD_input_10 rfl rfl ?_
      refine x_getR d_SD_input_11 f_SD_31 rfl (by assumption) (o4) ?_
      first | refine x_aload_n d_SD_input_14 rfl rfl ?_ | refine x_aloadN_n d_SD_input_14 rfl rfl ?_ | refine x_aloadE_n d_SD_input_14 rfl rfl ?_ | refine x_aloadO_n d_SD_input_14 rfl rfl ?_
      refine x_getR d_SD_input_15 f_SD_14 rfl (by assumption) (o1) ?_
      refine x_callV1 d_SD_input_18 k_Signs_isValue l_SD_139 v_Signs_isValue rfl s_Signs_isValue (by exact xs.1.1) RoomE.m (Nat.le_of_ble_eq_true rfl) (c_Signs_isValue xs xt ?_)
      refine x_if_ne (tgt := 26) d_SD_input_21 (by decide) (fun c21 => ?_) (fun c21 => ?_)
      · have h8 : v.toNatClampNeg < 8 := Nat.not_le.mp fun z => c7 ((clamp_lt (n := 8) c1 (by decide)).mpr z)
        first | refine x_aload_n d_SD_input_26 rfl rfl ?_ | refine x_aloadN_n d_SD_input_26 rfl rfl ?_ | refine x_aloadE_n d_SD_input_26 rfl rfl ?_ | refine x_aloadO_n d_SD_input_26 rfl rfl ?_
        refine x_getR d_SD_input_27 f_SD_21 rfl (by assumption) (o3) ?_
        refine x_iload_n d_SD_input_30 rfl rfl ?_
        refine x_aald d_SD_input_31 (by exact xi.1) (by decide) (fun z => z.elim c1 (fun z => absurd z (by omega))) ((xi.2 _ h8).1) ?_
        first | refine x_aload_n d_SD_input_32 rfl rfl ?_ | refine x_aloadN_n d_SD_input_32 rfl rfl ?_ | refine x_aloadE_n d_SD_input_32 rfl rfl ?_ | refine x_aloadO_n d_SD_input_32 rfl rfl ?_
        refine x_getR d_SD_input_33 f_SD_14 rfl (by assumption) (o1) ?_
        refine x_callV1 d_SD_input_36 k_Row_copy l_SD_135 v_Row_copy rfl s_Row_copy (by exact (xi.2 _ h8).2.1.1) RoomE.m (Nat.le_of_ble_eq_true rfl) (c_Row_copy (xi.2 _ h8).2.1 xt (by omega) (fun τ1 r1 f1 => ?_))
        first | refine x_aload_n d_SD_input_39 rfl rfl ?_ | refine x_aloadN_n d_SD_input_39 rfl rfl ?_ | refine x_aloadE_n d_SD_input_39 rfl rfl ?_ | refine x_aloadO_n d_SD_input_39 rfl rfl ?_
        refine x_getR d_SD_input_40 f_SD_14 rfl (by assumption) (by rw [f1.1]; exact o1) ?_
        refine x_callV0 d_SD_input_43 k_Row_clear l_SD_91 v_Row_clear rfl s_Row_clear (by exact xt.1) RoomE.m (Nat.le_of_ble_eq_true rfl) (c_Row_clear (xt.fr f1 (by simp; omega) (by simp; omega)) (fun τ2 r2 f2 => ?_))
        refine x_iconst (v := 1) d_SD_input_46 (by decide) ?_
        exact x_ireturn d_SD_input_47 rfl (by decide) (by
          have hb : inpOK X v = true := by rw [inpOK, if_neg c1, if_neg c7, ← tk24 xtl]; exact bI_n0 c21
          have hq := hQ τ2 (by
            rw [csInp, if_pos hb]
            rw [tk24 xtl] at r1
            have h1 := hX.inp h8 f1 r1 xtl
            exact h1.text (f2.mono (by simp)) r2 (Nat.zero_le _)) ((f1.P (by simp [inCS]; omega)).tr (f2.P (by simp [inCS])))
          rw [hb] at hq
          exact hq)
      · refine x_iconst (v := 0) d_SD_input_24 (by decide) ?_
        exact x_ireturn d_SD_input_25 rfl (by decide) (by
          have hb : inpOK X v = false := by
            unfold inpOK
            first
            | rw [if_pos c1]
            | rw [if_neg c1, if_pos c7]
            | (rw [if_neg c1, if_neg c7, ← tk24 xtl]; exact bI_0 c21)
          have hq := hQ σ (by rw [csInp, hb, if_neg (by decide)]; exact hX) FrP.rf
          rw [hb] at hq
          exact hq)
