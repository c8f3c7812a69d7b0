/-! SuperDriver$Runner at cell 386, its rows at 387 and 389 -/
def swp (ra rb : Nat) : Prop := (ra = 387 ∧ rb = 389) ∨ (ra = 389 ∧ rb = 387)
def isRn (Γ : List Sh) (σ : Mem) (ra rb : Nat) (y : List Int32) (e : Int32) (m : Nat) : Prop := Γ[386]? = some (0, 10) ∧ σ.2.1 386 0 = some 27 ∧ σ.2.1 386 1 = some 22 ∧ swp ra rb ∧ σ.2.1 386 2 = some ra ∧ σ.2.1 386 3 = some rb ∧ isRow Γ σ ra 200 y ∧ (∃ y2, isRow Γ σ rb 200 y2) ∧ σ.1 386 4 = e ∧ σ.1 386 5 = nI m
def isRun (Γ : List Sh) (σ : Mem) (y : List Int32) (e : Int32) (m : Nat) : Prop := ∃ ra rb, isRn Γ σ ra rb y e m
def inR (a : Nat) : Prop := 386 ≤ a ∧ a ≤ 390
theorem isRn.P {Γ : List Sh} {σ σ' : Mem} {ra rb : Nat} {y : List Int32} {e : Int32} {m : Nat} {X : Nat → Prop} (h : isRn Γ σ ra rb y e m) (hf : FrP X σ σ') (h0 : ∀ a, inR a → ¬ X a) : isRn Γ σ' ra rb y e m := by
  obtain ⟨a, b, c, d, f, g, i, ⟨y2, j⟩, k, l⟩ := h
  have h1 := hf 386 (h0 _ ⟨by omega, by omega⟩)
  have hd : (ra = 387 ∧ rb = 389) ∨ (ra = 389 ∧ rb = 387) := d
  exact ⟨a, by rw [h1.2.1]; exact b, by rw [h1.2.1]; exact c, d, by rw [h1.2.1]; exact f, by rw [h1.2.1]; exact g, i.P hf (h0 _ ⟨by omega, by omega⟩) (h0 _ ⟨by omega, by omega⟩), ⟨y2, j.P hf (h0 _ ⟨by omega, by omega⟩) (h0 _ ⟨by omega, by omega⟩)⟩, by rw [h1.1]; exact k, by rw [h1.1]; exact l⟩
theorem isRun.P {Γ : List Sh} {σ σ' : Mem} {y : List Int32} {e : Int32} {m : Nat} {X : Nat → Prop} (h : isRun Γ σ y e m) (hf : FrP X σ σ') (h0 : ∀ a, inR a → ¬ X a) : isRun Γ σ' y e m := by
  obtain ⟨ra, rb, h⟩ := h
  exact ⟨ra, rb, h.P hf h0⟩
def isInp (Γ : List Sh) (σ : Mem) (ins : Nat → List Int32) : Prop := Γ[5]? = some (4, 8) ∧ ∀ v, v < 8 → σ.2.1 5 v = some (6 + 2 * v) ∧ isRow Γ σ (6 + 2 * v) 24 (ins v) ∧ (ins v).length ≤ 24
theorem isInp.P {Γ : List Sh} {σ σ' : Mem} {ins : Nat → List Int32} {X : Nat → Prop} (h : isInp Γ σ ins) (hf : FrP X σ σ') (h0 : ∀ a, 5 ≤ a → a ≤ 21 → ¬ X a) : isInp Γ σ' ins := ⟨h.1, fun v hv => ⟨by rw [(hf 5 (h0 _ (by omega) (by omega))).2.1]; exact (h.2 v hv).1, (h.2 v hv).2.1.P hf (h0 _ (by omega) (by omega)) (h0 _ (by omega) (by omega)), (h.2 v hv).2.2⟩⟩
set_option maxRecDepth 10000 in
set_option maxHeartbeats 1000000 in
theorem c_Runner_clear {G : Ctx} {d : Nat} {Γ : List Sh} {σ : Mem} {Q : Option Value → List Sh → Mem → Prop} {ra rb m : Nat} {y : List Int32} {e : Int32}  (hR : isRn Γ σ ra rb y e m) (hQ : ∀ σ', isRn Γ σ' ra rb y (-1) 0 → Fr [386] σ σ' → Q none Γ σ') : Ct G M_Runner_clear d 0 0 [rf G 386] Γ σ Q := by
  obtain ⟨z0, z1, z2, z3, z4, z5, z6, ⟨y2, z7⟩, z8, z9⟩ := id hR

  refine Ct.of (lv := [some (rf G 386)]) (ll := []) rfl rfl (EN.cat (n := 0) ⟨rfl, trivial⟩ (Nat.le_of_ble_eq_true rfl)) ?_
  first | refine x_aload_n d_Runner_clear_0 rfl rfl ?_ | refine x_aloadN_n d_Runner_clear_0 rfl rfl ?_ | refine x_aloadE_n d_Runner_clear_0 rfl rfl ?_ | refine x_aloadO_n d_Runner_clear_0 rfl rfl ?_
  refine x_iconst (v := -1) d_Runner_clear_1 (by decide) ?_
  refine x_putI d_Runner_clear_2 (w_Runner_m_23 _) rfl (by first | rfl | decide) (by first | rfl | decide) (by assumption) ?_
  first | refine x_aload_n d_Runner_clear_5 rfl rfl ?_ | refine x_aloadN_n d_Runner_clear_5 rfl rfl ?_ | refine x_aloadE_n d_Runner_clear_5 rfl rfl ?_ | refine x_aloadO_n d_Runner_clear_5 rfl rfl ?_
  refine x_iconst (v := 0) d_Runner_clear_6 (by decide) ?_
  refine x_putI d_Runner_clear_7 (w_Runner_m_27 _) rfl (by first | rfl | decide) (by first | rfl | decide) (by assumption) ?_
  exact x_return d_Runner_clear_10 rfl (by
    have ff : Fr [386] σ (wI (wI σ 386 4 (-1)) 386 5 0) := (Fr.rf.wI (by simp)).wI (by simp)
    have hd : (ra = 387 ∧ rb = 389) ∨ (ra = 389 ∧ rb = 387) := z3
    exact hQ _ ⟨z0, z1, z2, z3, z4, z5, z6.Fr ff (by simp; omega) (by simp; omega), ⟨y2, z7.Fr ff (by simp; omega) (by simp; omega)⟩, by rw [wI_j (by decide), wI_s], by rw [wI_s, ← nI_0]⟩ ff)
set_option maxRecDepth 10000 in
set_option maxHeartbeats 1000000 in
theorem c_Runner_stepsMade {G : Ctx} {d : Nat} {Γ : List Sh} {σ : Mem} {Q : Option Value → List Sh → Mem → Prop} {ra rb m : Nat} {y : List Int32} {e : Int32}  (hR : isRn Γ σ ra rb y e m) (hQ : Q (some (.int (nI m))) Γ σ) : Ct G M_Runner_stepsMade d 0 0 [rf G 386] Γ σ Q := by
  obtain ⟨z0, z1, z2, z3, z4, z5, z6, ⟨y2, z7⟩, z8, z9⟩ := id hR

  refine Ct.of (lv := [some (rf G 386)]) (ll := []) rfl rfl (EN.cat (n := 0) ⟨rfl, trivial⟩ (Nat.le_of_ble_eq_true rfl)) ?_
  first | refine x_aload_n d_Runner_stepsMade_0 rfl rfl ?_ | refine x_aloadN_n d_Runner_stepsMade_0 rfl rfl ?_ | refine x_aloadE_n d_Runner_stepsMade_0 rfl rfl ?_ | refine x_aloadO_n d_Runner_stepsMade_0 rfl rfl ?_
  refine x_getI d_Runner_stepsMade_1 f_Runner_27 rfl (by assumption) ?_
  rw [z9]
  exact x_ireturn d_Runner_stepsMade_4 rfl rfl hQ
def cAt (y : List Int32) (e : Int32) (i : Int32) : Int32 := if e = 0 then (if i = -1 then nI (y.take 200).length else if isK (atI (y.take 200) i) = true then atI (y.take 200) i - 100 else -1) else -1
set_option maxRecDepth 10000 in
set_option maxHeartbeats 1000000 in
theorem c_Runner_constructorAt {G : Ctx} {d : Nat} {Γ : List Sh} {σ : Mem} {Q : Option Value → List Sh → Mem → Prop} {ra rb m : Nat} {y : List Int32} {e : Int32} {i : Int32}  (hR : isRn Γ σ ra rb y e m) (hQ : Q (some (.int (cAt y e i))) Γ σ) : Ct G M_Runner_constructorAt (d + 1) 0 0 [rf G 386, .int i] Γ σ Q := by
  obtain ⟨z0, z1, z2, z3, z4, z5, z6, ⟨y2, z7⟩, z8, z9⟩ := id hR

  refine Ct.of (lv := [some (rf G 386), some (.int i)]) (ll := []) rfl rfl (EN.cat (n := 0) ⟨rfl, rfl, trivial⟩ (Nat.le_of_ble_eq_true rfl)) ?_
  first | refine x_aload_n d_Runner_constructorAt_0 rfl rfl ?_ | refine x_aloadN_n d_Runner_constructorAt_0 rfl rfl ?_ | refine x_aloadE_n d_Runner_constructorAt_0 rfl rfl ?_ | refine x_aloadO_n d_Runner_constructorAt_0 rfl rfl ?_
  refine x_getI d_Runner_constructorAt_1 f_Runner_23 rfl (by assumption) ?_
  rw [z8]
  refine x_if_eq (tgt := 9) d_Runner_constructorAt_4 (by decide) (fun c4 => ?_) (fun c4 => ?_)
  · refine x_iload_n d_Runner_constructorAt_9 rfl rfl ?_
    refine x_iconst (v := -1) d_Runner_constructorAt_10 (by decide) ?_
    refine x_icmp_ne (tgt := 22) d_Runner_constructorAt_11 (by decide) (fun c11 => ?_) (fun c11 => ?_)
    · first | refine x_aload_n d_Runner_constructorAt_22 rfl rfl ?_ | refine x_aloadN_n d_Runner_constructorAt_22 rfl rfl ?_ | refine x_aloadE_n d_Runner_constructorAt_22 rfl rfl ?_ | refine x_aloadO_n d_Runner_constructorAt_22 rfl rfl ?_
      refine x_getR d_Runner_constructorAt_23 f_Runner_14 rfl (by assumption) (by assumption) ?_
      refine x_iload_n d_Runner_constructorAt_26 rfl rfl ?_
      refine x_callV1 d_Runner_constructorAt_27 k_Row_at l_Runner_74 v_Row_at rfl s_Row_at (by exact z6.1) RoomE.m (Nat.le_of_ble_eq_true rfl) (c_Row_at z6 ?_)
      refine x_callSN1 d_Runner_constructorAt_30 k_SD_isConstructor ln_Runner_78 z_SD_isConstructor RoomE.m (Nat.le_of_ble_eq_true rfl) (c_SD_isConstructor ?_)
      refine x_if_eq (tgt := 50) d_Runner_constructorAt_33 (by decide) (fun c33 => ?_) (fun c33 => ?_)
      · refine x_iconst (v := -1) d_Runner_constructorAt_50 (by decide) ?_
        exact x_ireturn d_Runner_constructorAt_51 rfl rfl (by rw [cAt, if_pos c4, if_neg c11] at hQ; first | (rw [if_neg (by rw [bI_0 c33]; decide)] at hQ; exact hQ) | (rw [if_pos (bI_n0 c33)] at hQ; exact hQ))
      · first | refine x_aload_n d_Runner_constructorAt_36 rfl rfl ?_ | refine x_aloadN_n d_Runner_constructorAt_36 rfl rfl ?_ | refine x_aloadE_n d_Runner_constructorAt_36 rfl rfl ?_ | refine x_aloadO_n d_Runner_constructorAt_36 rfl rfl ?_
        refine x_getR d_Runner_constructorAt_37 f_Runner_14 rfl (by assumption) (by assumption) ?_
        refine x_iload_n d_Runner_constructorAt_40 rfl rfl ?_
        refine x_callV1 d_Runner_constructorAt_41 k_Row_at l_Runner_74 v_Row_at rfl s_Row_at (by exact z6.1) RoomE.m (Nat.le_of_ble_eq_true rfl) (c_Row_at z6 ?_)
        refine x_bipush (v := 100) d_Runner_constructorAt_44 (by decide) ?_
        refine x_isub d_Runner_constructorAt_46 ?_
        refine x_goto (tgt := 51) d_Runner_constructorAt_47 (by decide) ?_
        exact x_ireturn d_Runner_constructorAt_51 rfl rfl (by rw [cAt, if_pos c4, if_neg c11] at hQ; first | (rw [if_neg (by rw [bI_0 c33]; decide)] at hQ; exact hQ) | (rw [if_pos (bI_n0 c33)] at hQ; exact hQ))
    · first | refine x_aload_n d_Runner_constructorAt_14 rfl rfl ?_ | refine x_aloadN_n d_Runner_constructorAt_14 rfl rfl ?_ | refine x_aloadE_n d_Runner_constructorAt_14 rfl rfl ?_ | refine x_aloadO_n d_Runner_constructorAt_14 rfl rfl ?_
      refine x_getR d_Runner_constructorAt_15 f_Runner_14 rfl (by assumption) (by assumption) ?_
      refine x_callV0 d_Runner_constructorAt_18 k_Row_length l_Runner_43 v_Row_length rfl s_Row_length (by exact z6.1) RoomE.m (Nat.le_of_ble_eq_true rfl) (c_Row_length z6 ?_)
      exact x_ireturn d_Runner_constructorAt_21 rfl rfl (by rw [cAt, if_pos c4, if_pos c11] at hQ; exact hQ)
  · refine x_iconst (v := -1) d_Runner_constructorAt_7 (by decide) ?_
    exact x_ireturn d_Runner_constructorAt_8 rfl rfl (by rw [cAt, if_neg c4] at hQ; exact hQ)
def inpS (ins : Nat → List Int32) (s : Int32) : List Int32 := if s < 0 then [s] else if s.toNatClampNeg < 8 then ins s.toNatClampNeg else [s]
def bI8 (ins : Nat → List Int32) (k : Nat) : Nat → Option (Nat × Nat × Nat) := fun v => if v < k then some (6 + 2 * v, 0, ((ins v).take 24).length) else none
theorem bI8_s {ins : Nat → List Int32} {k : Nat} : upN (bI8 ins k) k (some (6 + 2 * k, 0, ((ins k).take 24).length)) = bI8 ins (k + 1) := by
  funext v
  simp only [upN, bI8]
  by_cases e : v = k
  · subst e; simp
  · rw [if_neg e]
    by_cases z : v < k
    · rw [if_pos z, if_pos (by omega)]
    · rw [if_neg z, if_neg (by omega)]
theorem bI8_sub {ins : Nat → List Int32} (s : Int32) : sub1 (bI8 ins 8) ins s = inpS ins s := by
  unfold sub1 inpS
  by_cases hs : isV s = true
  · rw [if_pos hs]
    have h0 : ¬ s < 0 := fun z => by simp [isV, z] at hs
    rw [if_neg h0]
    by_cases z : s.toNatClampNeg < 8
    · simp [bI8, z]
    · simp [bI8, z]
  · rw [if_neg hs]
    by_cases h0 : s < 0
    · rw [if_pos h0]
    · rw [if_neg h0, if_neg]
      intro z
      apply hs
      unfold isV
      rw [if_neg h0, if_neg]
      intro h1
      have := (clamp_lt (n := 100) h0 (by decide)).mp h1
      omega
theorem isV_k {k : Nat} (h : k < 100) : isV (nI k) = true := by
  unfold isV
  rw [if_neg (nI_nneg k (by omega))]
  exact if_neg (show ¬ nI 100 ≤ nI k from nI_ge h (by decide))
set_option maxRecDepth 10000 in
set_option maxHeartbeats 1000000 in
theorem c_Runner_begin {G : Ctx} {d : Nat} {Γ : List Sh} {σ : Mem} {Q : Option Value → List Sh → Mem → Prop} {ra rb m : Nat} {y : List Int32} {e : Int32} {r n K : Nat} {zs : List Int32} {ins : Nat → List Int32}  (hR : isRn Γ σ ra rb y e m) (hI : isInp Γ σ ins) (hS : isSb Γ σ K) (hK : K < 1000000000) (hZ : isRow Γ σ r n zs) (hr : r + 1 < 22 ∨ (26 < r ∧ r + 1 < 386)) (hQ : ∀ σ', isRn Γ σ' ra rb ((zs.take n).flatMap (inpS ins)) e m → isSb Γ σ' (K + 1) → FrP (fun a => (22 ≤ a ∧ a ≤ 26) ∨ inR a) σ σ' → Q none Γ σ') : Ct G M_Runner_begin (d + 3) 0 0 [rf G 386, rf G r, rf G 5] Γ σ Q := by
  obtain ⟨z0, z1, z2, z3, z4, z5, z6, ⟨y2, z7⟩, z8, z9⟩ := id hR
  obtain ⟨k0, β0, hk0, hSub⟩ := id hS
  have hd : (ra = 387 ∧ rb = 389) ∨ (ra = 389 ∧ rb = 387) := z3
  have lp : ∀ (k : Nat) (v : Nat) (τ : Mem), v + k = 8 → isSub Γ τ 22 (k0 + 1) (bI8 ins v) → Fr [22, 23, 24, 25, 26] σ τ → Wq G M_Runner_begin (Em G (d + 3) 0 0 Q) 0 0 9 [some (rf G 386), some (rf G r), some (rf G 5), some (.int (nI v))] [] [] Γ τ := by
    intro k
    induction k with
    | zero =>
      intro v τ h1 S1 f0
      have R1 := hR.P (f0.P (T := fun a => 22 ≤ a ∧ a ≤ 26) (by simp)) (fun a ha hb => by unfold inR at ha; omega)
      have I1 := hI.P (f0.P (T := fun a => 22 ≤ a ∧ a ≤ 26) (by simp)) (fun a ha hb => by omega)
      obtain ⟨x0, x1, x2, x3, x4, x5, x6, ⟨w2, x7⟩, x8, x9⟩ := id R1
      refine x_iload_n d_Runner_begin_9 rfl rfl ?_
      first | refine x_aload_n d_Runner_begin_10 rfl rfl ?_ | refine x_aloadN_n d_Runner_begin_10 rfl rfl ?_ | refine x_aloadE_n d_Runner_begin_10 rfl rfl ?_ | refine x_aloadO_n d_Runner_begin_10 rfl rfl ?_
      refine x_alen d_Runner_begin_11 (by exact hI.1) (by decide) rfl ?_
      refine x_icmp_ge (tgt := 45) d_Runner_begin_12 (by decide) (fun c12 => ?_) (fun c12 => ?_)
      · first | refine x_aload_n d_Runner_begin_45 rfl rfl ?_ | refine x_aloadN_n d_Runner_begin_45 rfl rfl ?_ | refine x_aloadE_n d_Runner_begin_45 rfl rfl ?_ | refine x_aloadO_n d_Runner_begin_45 rfl rfl ?_
        refine x_getR d_Runner_begin_46 f_Runner_14 rfl (by assumption) (by assumption) ?_
        refine x_callV0 d_Runner_begin_49 k_Row_clear l_Runner_51 v_Row_clear rfl s_Row_clear (by exact x6.1) RoomE.m (Nat.le_of_ble_eq_true rfl) (c_Row_clear x6 (fun τ2 r2 f2 => ?_))
        have hv8 : v = 8 := by omega
        subst hv8
        have Z2 := (hZ.Fr f0 (by simp; omega) (by simp; omega)).fr f2 (by simp; omega) (by simp; omega)
        have B2 : bdOK Γ τ2 ra (bI8 ins 8) ins := by
          intro v' rr ff tt h5 h6
          unfold bI8 at h6
          split at h6
          · next hz =>
            cases h6
            have := I1.2 v' hz
            refine ⟨by omega, by omega, by have := this.2.1.tl; omega, 24, ins v', this.2.1.fr f2 (by simp; omega) (by simp; omega), ?_⟩
            rw [List.take_of_length_le (Nat.le_refl _), List.drop_zero, List.take_of_length_le this.2.2]
          · cases h6
        first | refine x_aload_n d_Runner_begin_52 rfl rfl ?_ | refine x_aloadN_n d_Runner_begin_52 rfl rfl ?_ | refine x_aloadE_n d_Runner_begin_52 rfl rfl ?_ | refine x_aloadO_n d_Runner_begin_52 rfl rfl ?_
        refine x_getR d_Runner_begin_53 f_Runner_34 rfl (by assumption) (by rw [f2.1]; exact x2) ?_
        first | refine x_aload_n d_Runner_begin_56 rfl rfl ?_ | refine x_aloadN_n d_Runner_begin_56 rfl rfl ?_ | refine x_aloadE_n d_Runner_begin_56 rfl rfl ?_ | refine x_aloadO_n d_Runner_begin_56 rfl rfl ?_
        first | refine x_aload_n d_Runner_begin_57 rfl rfl ?_ | refine x_aloadN_n d_Runner_begin_57 rfl rfl ?_ | refine x_aloadE_n d_Runner_begin_57 rfl rfl ?_ | refine x_aloadO_n d_Runner_begin_57 rfl rfl ?_
        refine x_getR d_Runner_begin_58 f_Runner_14 rfl (by assumption) (by rw [f2.1]; exact x4) ?_
        refine x_callV2 d_Runner_begin_61 k_Substitution_apply l_Runner_54 v_Substitution_apply rfl s_Substitution_apply (by exact S1.1.1) RoomE.m (Nat.le_of_ble_eq_true rfl) (c_Substitution_apply (B := ins) (S1.Fr f2.fr (by simp; omega) (by simp; omega) (by simp; omega) (by simp; omega) (by simp; omega)) Z2 r2 (by omega) (by omega) B2 (fun τ3 r3 f3 => ?_))
        exact x_return d_Runner_begin_64 rfl (by
          have e2 : [] ++ (zs.take n).flatMap (sub1 (bI8 ins 8) ins) = (zs.take n).flatMap (inpS ins) := by
            rw [List.nil_append]
            congr 1
            funext s
            exact bI8_sub s
          rw [e2] at r3
          have f23 : FrI [ra, ra + 1] τ τ3 := (f2.mono (by simp)).tr f3
          refine hQ τ3 ⟨x0, by rw [f23.1]; exact x1, by rw [f23.1]; exact x2, x3, by rw [f23.1]; exact x4, by rw [f23.1]; exact x5, r3, ⟨w2, x7.fr f23 (by simp; omega) (by simp; omega)⟩, by rw [f23.2 _ (by simp; omega)]; exact x8, by rw [f23.2 _ (by simp; omega)]; exact x9⟩ ⟨k0 + 1, _, by omega, (S1.Fr f23.fr (by simp; omega) (by simp; omega) (by simp; omega) (by simp; omega) (by simp; omega))⟩ ((f0.P (by simp)).tr (f23.P (by simp; unfold inR; omega))))
      · exact absurd (nI_le (a := 8) (by omega) (by omega)) c12
    | succ k ih =>
      intro v τ h1 S1 f0
      have R1 := hR.P (f0.P (T := fun a => 22 ≤ a ∧ a ≤ 26) (by simp)) (fun a ha hb => by unfold inR at ha; omega)
      have I1 := hI.P (f0.P (T := fun a => 22 ≤ a ∧ a ≤ 26) (by simp)) (fun a ha hb => by omega)
      obtain ⟨x0, x1, x2, x3, x4, x5, x6, ⟨w2, x7⟩, x8, x9⟩ := id R1
      refine x_iload_n d_Runner_begin_9 rfl rfl ?_
      first | refine x_aload_n d_Runner_begin_10 rfl rfl ?_ | refine x_aloadN_n d_Runner_begin_10 rfl rfl ?_ | refine x_aloadE_n d_Runner_begin_10 rfl rfl ?_ | refine x_aloadO_n d_Runner_begin_10 rfl rfl ?_
      refine x_alen d_Runner_begin_11 (by exact hI.1) (by decide) rfl ?_
      refine x_icmp_ge (tgt := 45) d_Runner_begin_12 (by decide) (fun c12 => ?_) (fun c12 => ?_)
      · have := (nI_leI (a := 8) (by decide) (by omega)).mp c12; omega
      · have hv8 : v < 8 := by omega
        have iv := I1.2 v hv8
        first | refine x_aload_n d_Runner_begin_15 rfl rfl ?_ | refine x_aloadN_n d_Runner_begin_15 rfl rfl ?_ | refine x_aloadE_n d_Runner_begin_15 rfl rfl ?_ | refine x_aloadO_n d_Runner_begin_15 rfl rfl ?_
        refine x_iload_n d_Runner_begin_16 rfl rfl ?_
        refine x_aald d_Runner_begin_17 (by exact hI.1) (by decide) (vp_in_nI hv8 (by decide)) (by rw [nI_clamp (by omega)]; exact iv.1) ?_
        refine x_ifnull d_Runner_begin_18 ?_
        first | refine x_aload_n d_Runner_begin_21 rfl rfl ?_ | refine x_aloadN_n d_Runner_begin_21 rfl rfl ?_ | refine x_aloadE_n d_Runner_begin_21 rfl rfl ?_ | refine x_aloadO_n d_Runner_begin_21 rfl rfl ?_
        refine x_getR d_Runner_begin_22 f_Runner_34 rfl (by assumption) (x2) ?_
        refine x_iload_n d_Runner_begin_25 rfl rfl ?_
        first | refine x_aload_n d_Runner_begin_26 rfl rfl ?_ | refine x_aloadN_n d_Runner_begin_26 rfl rfl ?_ | refine x_aloadE_n d_Runner_begin_26 rfl rfl ?_ | refine x_aloadO_n d_Runner_begin_26 rfl rfl ?_
        refine x_iload_n d_Runner_begin_27 rfl rfl ?_
        refine x_aald d_Runner_begin_28 (by exact hI.1) (by decide) (vp_in_nI hv8 (by decide)) (by rw [nI_clamp (by omega)]; exact iv.1) ?_
        refine x_iconst (v := 0) d_Runner_begin_29 (by decide) ?_
        first | refine x_aload_n d_Runner_begin_30 rfl rfl ?_ | refine x_aloadN_n d_Runner_begin_30 rfl rfl ?_ | refine x_aloadE_n d_Runner_begin_30 rfl rfl ?_ | refine x_aloadO_n d_Runner_begin_30 rfl rfl ?_
        refine x_iload_n d_Runner_begin_31 rfl rfl ?_
        refine x_aald d_Runner_begin_32 (by exact hI.1) (by decide) (vp_in_nI hv8 (by decide)) (by rw [nI_clamp (by omega)]; exact iv.1) ?_
        refine x_callV0 d_Runner_begin_33 k_Row_length l_Runner_43 v_Row_length rfl s_Row_length (by exact iv.2.1.1) RoomE.m (Nat.le_of_ble_eq_true rfl) (c_Row_length iv.2.1 ?_)
        refine x_callV4 d_Runner_begin_36 k_Substitution_bind l_Runner_47 v_Substitution_bind rfl s_Substitution_bind (by exact S1.1.1) RoomE.m (Nat.le_of_ble_eq_true rfl) (c_bind2' (f := 0) nI_0.symm rfl S1 iv.2.1 (fun τ2 s2 f2 => ?_))
        refine x_iinc (v := nI (v + 1)) d_Runner_begin_39 rfl (nI_1 v) rfl ?_
        refine x_goto (tgt := 9) d_Runner_begin_42 (by decide) ?_
        rw [if_pos (isV_k (by omega)), nI_clamp (by omega), bI8_s] at s2
        exact Wq.fg (ih (v + 1) τ2 (by omega) s2 (f0.tr (f2.mono (by simp)))) ⟨rfl, rfl, rfl, rfl, trivial⟩
  refine Ct.of (lv := [some (rf G 386), some (rf G r), some (rf G 5), none]) (ll := []) rfl rfl (EN.cat (n := 1) ⟨rfl, rfl, rfl, trivial⟩ (Nat.le_of_ble_eq_true rfl)) ?_
  first | refine x_aload_n d_Runner_begin_0 rfl rfl ?_ | refine x_aloadN_n d_Runner_begin_0 rfl rfl ?_ | refine x_aloadE_n d_Runner_begin_0 rfl rfl ?_ | refine x_aloadO_n d_Runner_begin_0 rfl rfl ?_
  refine x_getR d_Runner_begin_1 f_Runner_34 rfl (by exact z0) (z2) ?_
  refine x_callV0 d_Runner_begin_4 k_Substitution_begin l_Runner_38 v_Substitution_begin rfl s_Substitution_begin (by exact hSub.1.1) RoomE.m (Nat.le_of_ble_eq_true rfl) (c_Substitution_begin hSub (by omega) (fun τ1 S1 f1 => ?_))
  refine x_iconst (v := 0) d_Runner_begin_7 (by decide) ?_
  refine x_istore_n d_Runner_begin_8 rfl rfl ?_
  exact Wq.fg (lp 8 0 τ1 (by omega) (by have e : bI8 ins 0 = fun _ => none := by { funext v; simp [bI8] }; rw [e]; exact S1) (f1.fr.mono (by simp))) ⟨rfl, rfl, rfl, by rw [nI_0], trivial⟩
