/-! SuperDriver: forget, drive, run -/
def kTr (X : CS) (T : TS) : CS := (X.1, X.2.1, X.2.2.1, X.2.2.2.1, X.2.2.2.2.1, X.2.2.2.2.2.1, T, X.2.2.2.2.2.2.2)
def kSg (X : CS) (pt : Nat → Int32) (cs : Nat → Bool) (T : TS) : CS := (X.1, X.2.1, X.2.2.1, pt, cs, X.2.2.2.2.2.1, T, X.2.2.2.2.2.2.2)
theorem isCS.drv {Γ : List Sh} {σ σ' : Mem} {K K' : Nat} {X : CS} {T : TS} {S : GS} (h : isCS Γ σ K X) (hf : FrP inDr σ σ') (hT : isTree Γ σ' T) (hD : isDrv Γ σ') (hS : isGen Γ σ' S) (hb : isSb Γ σ' K') : isCS Γ σ' K' (kTr X T) := by
  obtain ⟨a1, ⟨a2, b2⟩, ⟨a3, b3⟩, a4, a5, a6, a7, a8, a9, a10, a11, a12⟩ := h
  exact ⟨a1.P hf (by unfold inDr; omega), ⟨a2.P hf (by unfold inDr; omega) (by unfold inDr; omega), b2⟩, ⟨a3.P hf (by unfold inDr; omega) (by unfold inDr; omega), b3⟩, a4.P hf (fun a h1 h2 => by unfold inDr; omega), hb, a6.P hf (by unfold inDr; omega) (by unfold inDr; omega) (by unfold inDr; omega), a7.P hf (fun a h1 h2 => by unfold inDr; omega), hT, hD, ⟨S, hS⟩, a11.P hf (by unfold inDr; omega), a12.P hf (fun a h1 => by unfold inR at h1; unfold inDr; omega)⟩
theorem isCS.wr {Γ : List Sh} {σ σ' : Mem} {K K' : Nat} {X : CS} {T : TS} {pt : Nat → Int32} {cs : Nat → Bool} (h : isCS Γ σ K X) (hf : FrP inW σ σ') (hT : isTree Γ σ' T) (hG : isSg Γ σ' 27 pt cs) (hb : isSb Γ σ' K') : isCS Γ σ' K' (kSg X pt cs T) := by
  obtain ⟨a1, ⟨a2, b2⟩, ⟨a3, b3⟩, a4, a5, a6, a7, a8, a9, ⟨S, a10⟩, a11, a12⟩ := h
  exact ⟨a1.P hf (by unfold inW inT; omega), ⟨a2.P hf (by unfold inW inT; omega) (by unfold inW inT; omega), b2⟩, ⟨a3.P hf (by unfold inW inT; omega) (by unfold inW inT; omega), b3⟩, a4.P hf (fun a h1 h2 => by unfold inW inT; omega), hb, hG, a7.P hf (fun a h1 h2 => by unfold inW inT; omega), hT, a9.P hf (fun a h1 => by unfold inD at h1; unfold inW inT; omega), ⟨S, a10.P hf (fun a h1 => by unfold inG at h1; unfold inW inT; omega)⟩, a11.P hf (by unfold inW inT; omega), a12.P hf (fun a h1 => by unfold inR at h1; unfold inW inT; omega)⟩
def inRr (a : Nat) : Prop := (22 ≤ a ∧ a ≤ 26) ∨ inR a
theorem isCS.rn {Γ : List Sh} {σ σ' : Mem} {K K' : Nat} {X : CS} {ra rb m : Nat} {y : List Int32} {e : Int32} (h : isCS Γ σ K X) (hf : FrP inRr σ σ') (hb : isSb Γ σ' K') (hr : isRn Γ σ' ra rb y e m) : isCS Γ σ' K' (X.1, X.2.1, X.2.2.1, X.2.2.2.1, X.2.2.2.2.1, X.2.2.2.2.2.1, X.2.2.2.2.2.2.1, y, e, m) := by
  obtain ⟨a1, ⟨a2, b2⟩, ⟨a3, b3⟩, a4, a5, a6, a7, a8, a9, ⟨S, a10⟩, a11, a12⟩ := h
  exact ⟨a1.P hf (by unfold inRr inR; omega), ⟨a2.P hf (by unfold inRr inR; omega) (by unfold inRr inR; omega), b2⟩, ⟨a3.P hf (by unfold inRr inR; omega) (by unfold inRr inR; omega), b3⟩, a4.P hf (fun a h1 h2 => by unfold inRr inR; omega), hb, a6.P hf (by unfold inRr inR; omega) (by unfold inRr inR; omega) (by unfold inRr inR; omega), a7.P hf (fun a h1 h2 => by unfold inRr inR; omega), a8.P hf (fun a h1 => by unfold inT at h1; unfold inRr inR; omega), a9.P hf (fun a h1 => by unfold inD at h1; unfold inRr inR; omega), ⟨S, a10.P hf (fun a h1 => by unfold inG at h1; unfold inRr inR; omega)⟩, a11.P hf (by unfold inRr inR; omega), ra, rb, hr⟩
theorem isCS.cl {Γ : List Sh} {σ σ' : Mem} {K : Nat} {X : CS} {pt : Nat → Int32} {cs : Nat → Bool} {bd : Nat → List Int32} (h : isCS Γ σ K X) (hf : FrP (fun a => a = 28 ∨ a = 29 ∨ (35 ≤ a ∧ a ≤ 130)) σ σ') (hG : isSg Γ σ' 27 pt cs) (hS : isSrc Γ σ' 33 27 22 bd) : isCS Γ σ' K (X.1, X.2.1, X.2.2.1, pt, cs, bd, X.2.2.2.2.2.2) := by
  obtain ⟨a1, ⟨a2, b2⟩, ⟨a3, b3⟩, a4, a5, a6, a7, a8, a9, ⟨S, a10⟩, a11, a12⟩ := h
  exact ⟨a1.P hf (by omega), ⟨a2.P hf (by omega) (by omega), b2⟩, ⟨a3.P hf (by omega) (by omega), b3⟩, a4.P hf (fun a h1 h2 => by omega), a5.P hf (fun a h1 h2 => by omega), hG, hS, a8.P hf (fun a h1 => by unfold inT at h1; omega), a9.P hf (fun a h1 => by unfold inD at h1; omega), ⟨S, a10.P hf (fun a h1 => by unfold inG at h1; omega)⟩, a11.P hf (by omega), a12.P hf (fun a h1 => by unfold inR at h1; omega)⟩
def csFg (X : CS) : CS := ([], [], clrB X.2.2.1 8, clrN X.2.2.2.1 8 0, clrN X.2.2.2.2.1 8 false, clrB X.2.2.2.2.2.1 48, tClr X.2.2.2.2.2.2.1, X.2.2.2.2.2.2.2.1, -1, 0)
theorem clrB_up (f : Nat → List Int32) (v : Nat) : upN (clrB f v) v [] = clrB f (v + 1) := by
  funext i
  unfold upN clrB
  by_cases h : i = v
  · rw [if_pos h, if_pos (by omega)]
  · rw [if_neg h]
    by_cases h2 : i < v
    · rw [if_pos h2, if_pos (by omega)]
    · rw [if_neg h2, if_neg (by omega)]
theorem clrB_0 (f : Nat → List Int32) : clrB f 0 = f := by
  funext i; unfold clrB; rw [if_neg (by omega)]
set_option maxRecDepth 10000 in
set_option maxHeartbeats 1000000 in
theorem c_SD_forget {G : Ctx} {d : Nat} {Γ : List Sh} {σ : Mem} {Q : Option Value → List Sh → Mem → Prop} {K : Nat} {X : CS}  (hX : isCS Γ σ K X) (hQ : ∀ σ', isCS Γ σ' K (csFg X) → FrP inCS σ σ' → Q none Γ σ') : Ct G M_SD_forget (d + 5) 0 0 [rf G 0] Γ σ Q := by
  obtain ⟨⟨o0, o1, o2, o3, o4, o5, o6, o7, o8, o9⟩, ⟨xt, xtl⟩, ⟨xg, xgl⟩, xi, xb, xs, xr, xT, xD, ⟨S, xG⟩, xR, ⟨ra, rb, xN⟩⟩ := id hX
  have lp : ∀ (k v : Nat) (τ : Mem), v ≤ 8 → 8 < v + k → isCS Γ τ K ([], [], clrB X.2.2.1 v, X.2.2.2) → FrP inCS σ τ → Wq G M_SD_forget (Em G (d + 5) 0 0 Q) 0 0 16 [some (rf G 0), some (.int (nI v))] [] [] Γ τ := by
    intro k
    induction k with
    | zero => intro v τ hv hk; omega
    | succ k ih =>
    intro v τ hv hk hY f0
    obtain ⟨⟨o0, o1, o2, o3, o4, o5, o6, o7, o8, o9⟩, ⟨xt, xtl⟩, ⟨xg, xgl⟩, xi, xb, ys, yr, xT, xD, ⟨S, xG⟩, xR, ⟨ra, rb, xN⟩⟩ := id hY
    refine x_iload_n d_SD_forget_16 rfl rfl ?_
    refine x_bipush (v := 8) d_SD_forget_17 (by decide) ?_
    refine x_icmp_ge (tgt := 37) d_SD_forget_19 (by decide) (fun c19 => ?_) (fun c19 => ?_)
    · first | refine x_aload_n d_SD_forget_37 rfl rfl ?_ | refine x_aloadN_n d_SD_forget_37 rfl rfl ?_ | refine x_aloadE_n d_SD_forget_37 rfl rfl ?_ | refine x_aloadO_n d_SD_forget_37 rfl rfl ?_
      refine x_getR d_SD_forget_38 f_SD_40 rfl (by assumption) (o5) ?_
      refine x_callV0 d_SD_forget_41 k_SourceProgram_clear l_SD_94 v_SourceProgram_clear rfl s_SourceProgram_clear (by exact yr.1) RoomE.m (Nat.le_of_ble_eq_true rfl) (c_SourceProgram_clear yr ys (by omega) (fun τ1 s1 r1 f1 => ?_))
      have h1 := hY.cl f1 s1 r1
      have xT1 := h1.2.2.2.2.2.2.2.1
      first | refine x_aload_n d_SD_forget_44 rfl rfl ?_ | refine x_aloadN_n d_SD_forget_44 rfl rfl ?_ | refine x_aloadE_n d_SD_forget_44 rfl rfl ?_ | refine x_aloadO_n d_SD_forget_44 rfl rfl ?_
      refine x_getR d_SD_forget_45 f_SD_47 rfl (by assumption) (h1.1.2.2.2.2.2.2.1) ?_
      refine x_callV0 d_SD_forget_48 k_Tree_clear l_SD_95 v_Tree_clear rfl s_Tree_clear (by exact xT1.1) RoomE.m (Nat.le_of_ble_eq_true rfl) (c_Tree_clear xT1 (fun τ2 T2 f2 => ?_))
      have h2 := h1.tree (t131 f2) T2
      obtain ⟨ra, rb, xN2⟩ := h2.2.2.2.2.2.2.2.2.2.2.2
      first | refine x_aload_n d_SD_forget_51 rfl rfl ?_ | refine x_aloadN_n d_SD_forget_51 rfl rfl ?_ | refine x_aloadE_n d_SD_forget_51 rfl rfl ?_ | refine x_aloadO_n d_SD_forget_51 rfl rfl ?_
      refine x_getR d_SD_forget_52 f_SD_72 rfl (by assumption) (h2.1.2.2.2.2.2.2.2.2.2) ?_
      refine x_callV0 d_SD_forget_55 k_Runner_clear l_SD_96 v_Runner_clear rfl s_Runner_clear (by exact xN2.1) RoomE.m (Nat.le_of_ble_eq_true rfl) (c_Runner_clear xN2 (fun τ3 N3 f3 => ?_))
      exact x_return d_SD_forget_58 rfl (hQ τ3 (by
        have h3 := h2.rn (f3.P (by simp [inRr, inR])) (h2.2.2.2.2.1.P (f3.P (T := fun a => a = 386) (by simp)) (fun a h1 h2 => by omega)) N3
        have e : v = 8 := by
          have := (nI_leI (by omega) (by omega)).mp (show nI 8 ≤ nI v from c19)
          omega
        rw [e] at h3
        exact h3) (f0.tr (((f1.mono (fun a z => by unfold inCS; omega)).tr (f2.P (by simp [inCS]))).tr (f3.P (by simp [inCS])))))
    · have hv8 : v < 8 := Nat.not_le.mp fun z => c19 (show nI 8 ≤ nI v from nI_le z (by omega))
      first | refine x_aload_n d_SD_forget_22 rfl rfl ?_ | refine x_aloadN_n d_SD_forget_22 rfl rfl ?_ | refine x_aloadE_n d_SD_forget_22 rfl rfl ?_ | refine x_aloadO_n d_SD_forget_22 rfl rfl ?_
      refine x_getR d_SD_forget_23 f_SD_21 rfl (by assumption) (o3) ?_
      refine x_iload_n d_SD_forget_26 rfl rfl ?_
      refine x_aald d_SD_forget_27 (by exact xi.1) (by decide) (vp_in_nI (by omega) (by omega)) (by rw [nI_clamp (by omega)]; exact (xi.2 v hv8).1) ?_
      refine x_callV0 d_SD_forget_28 k_Row_clear l_SD_91 v_Row_clear rfl s_Row_clear (by exact (xi.2 v hv8).2.1.1) RoomE.m (Nat.le_of_ble_eq_true rfl) (c_Row_clear (xi.2 v hv8).2.1 (fun τ1 r1 f1 => ?_))
      refine x_iinc (v := nI (v + 1)) d_SD_forget_31 rfl (nI_1 v) rfl ?_
      refine x_goto (tgt := 16) d_SD_forget_34 (by decide) ?_
      exact Wq.fg (ih (v + 1) τ1 (by omega) (by omega) (by
        have z := hY.inp hv8 (f1.mono (by simp)) r1 (Nat.zero_le _)
        rw [← clrB_up]
        exact z) (f0.tr (f1.P (by simp [inCS]; omega)))) ⟨rfl, rfl, trivial⟩
  refine Ct.of (lv := [some (rf G 0), none]) (ll := []) rfl rfl (EN.cat (n := 1) ⟨rfl, trivial⟩ (Nat.le_of_ble_eq_true rfl)) ?_
  first | refine x_aload_n d_SD_forget_0 rfl rfl ?_ | refine x_aloadN_n d_SD_forget_0 rfl rfl ?_ | refine x_aloadE_n d_SD_forget_0 rfl rfl ?_ | refine x_aloadO_n d_SD_forget_0 rfl rfl ?_
  refine x_getR d_SD_forget_1 f_SD_14 rfl (by assumption) (o1) ?_
  refine x_callV0 d_SD_forget_4 k_Row_clear l_SD_91 v_Row_clear rfl s_Row_clear (by exact xt.1) RoomE.m (Nat.le_of_ble_eq_true rfl) (c_Row_clear xt (fun τ1 r1 f1 => ?_))
  have h1 := hX.text (f1.mono (by simp)) r1 (Nat.zero_le _)
  have xg1 := h1.2.2.1.1
  first | refine x_aload_n d_SD_forget_7 rfl rfl ?_ | refine x_aloadN_n d_SD_forget_7 rfl rfl ?_ | refine x_aloadE_n d_SD_forget_7 rfl rfl ?_ | refine x_aloadO_n d_SD_forget_7 rfl rfl ?_
  refine x_getR d_SD_forget_8 f_SD_18 rfl (by assumption) (by rw [f1.1]; exact o2) ?_
  refine x_callV0 d_SD_forget_11 k_Row_clear l_SD_91 v_Row_clear rfl s_Row_clear (by exact xg1.1) RoomE.m (Nat.le_of_ble_eq_true rfl) (c_Row_clear xg1 (fun τ2 r2 f2 => ?_))
  have h2 := h1.goal (f2.mono (by simp)) r2 (Nat.zero_le _)
  refine x_iconst (v := 0) d_SD_forget_14 (by decide) ?_
  refine x_istore_n d_SD_forget_15 rfl rfl ?_
  exact Wq.fg (lp 9 0 τ2 (by omega) (by omega) (by rw [clrB_0]; exact h2) ((f1.P (by simp [inCS])).tr (f2.P (by simp [inCS])))) ⟨rfl, by rw [nI_0], trivial⟩
def dL (pt : Nat → Int32) (cs : Nat → Bool) (bd : Nat → List Int32) : Nat → Nat → GS → TS → GS × TS
  | 0, _, S, T => (S, T)
  | f + 1, n, S, T => if n < tN T then dL pt cs bd f (n + 1) (stl pt cs bd T n S).1 (stl pt cs bd T n S).2 else (S, T)
def dBeg (X : CS) : TS := (tAdd (tClr (kR X)) none (kG X) false).1
def dT (X : CS) (S : GS) : TS := (dL (kP X) (kC X) (kB X) 48 0 S (dBeg X)).2
def dW (X : CS) (S : GS) : (TS × Bool) × (Nat → Int32) × (Nat → Bool) := wrt (dT X S) (kP X) (kC X)
theorem isCS.mK {Γ : List Sh} {σ : Mem} {K K' : Nat} {X : CS} (h : isCS Γ σ K X) (hk : K ≤ K') : isCS Γ σ K' X := ⟨h.1, h.2.1, h.2.2.1, h.2.2.2.1, h.2.2.2.2.1.mono hk, h.2.2.2.2.2⟩
theorem dL_end {pt : Nat → Int32} {cs : Nat → Bool} {bd : Nat → List Int32} {f n : Nat} {S : GS} {T : TS} (h : ¬ n < tN T) : dL pt cs bd f n S T = (S, T) := by
  cases f with
  | zero => rfl
  | succ f => rw [dL, if_neg h]
set_option maxRecDepth 10000 in
set_option maxHeartbeats 1000000 in
theorem c_SD_drive {G : Ctx} {d : Nat} {Γ : List Sh} {σ : Mem} {Q : Option Value → List Sh → Mem → Prop} {Y : String → List Sh → Mem → Prop} {K : Nat} {X : CS} {J : Nat → GS → TS → Prop}  (hX : isCS Γ σ K X) (hOK : SgOK (kP X) (kC X)) (hK : K + 700 < 1000000000) (hE0 : kG X = [] → Y "java/lang/IllegalStateException" (Γ ++ [(9, 0)]) (zr σ Γ.length)) (h0 : kG X ≠ [] → ∀ S, J 0 S (dBeg X)) (hJ : ∀ n S T, J n S T → n < 48 → n < tN T → J (n + 1) (stl (kP X) (kC X) (kB X) T n S).1 (stl (kP X) (kC X) (kB X) T n S).2) (hJA : ∀ n S T, J n S T → AW T ∧ (tG T = false → TF (sgP (kP X)) T ∧ BW T ∧ GW T)) (hE1 : kG X ≠ [] → ∀ S σ', tG (dT X S) = true → isCS Γ σ' (K + 700) (kTr X (tClr (dT X S))) → FrP inCS σ σ' → Y "java/lang/UnsupportedOperationException" (Γ ++ [(9, 0)]) (zr σ' Γ.length)) (hE2 : kG X ≠ [] → ∀ S σ', tG (dT X S) = false → (dW X S).1.2 = false → isCS Γ σ' (K + 700) (kSg X (dW X S).2.1 (dW X S).2.2 (tClr (dW X S).1.1)) → FrP inCS σ σ' → Y "java/lang/UnsupportedOperationException" (Γ ++ [(9, 0)]) (zr σ' Γ.length)) (hQ : kG X ≠ [] → ∀ S σ', tG (dT X S) = false → (dW X S).1.2 = true → isCS Γ σ' (K + 700) (kSg X (dW X S).2.1 (dW X S).2.2 (dW X S).1.1) → FrP inCS σ σ' → Q (some (.int (nI (tN (dW X S).1.1)))) Γ σ') : CtX G M_SD_drive (d + 7) 1 6 [rf G 0] Γ σ Q Y := by
  obtain ⟨⟨o0, o1, o2, o3, o4, o5, o6, o7, o8, o9⟩, ⟨xt, xtl⟩, ⟨xg, xgl⟩, xi, xb, xs, xr, xT, xD, ⟨S, xG⟩, xR, ⟨ra, rb, xN⟩⟩ := id hX

  refine CtX.of (lv := [some (rf G 0), none]) (ll := []) rfl rfl (EN.cat (n := 1) ⟨rfl, trivial⟩ (Nat.le_of_ble_eq_true rfl)) ?_
  first | refine x_aload_n d_SD_drive_0 rfl rfl ?_ | refine x_aloadN_n d_SD_drive_0 rfl rfl ?_ | refine x_aloadE_n d_SD_drive_0 rfl rfl ?_ | refine x_aloadO_n d_SD_drive_0 rfl rfl ?_
  refine x_getR d_SD_drive_1 f_SD_18 rfl (by assumption) (o2) ?_
  refine x_callV0 d_SD_drive_4 k_Row_isEmpty l_SD_142 v_Row_isEmpty rfl s_Row_isEmpty (by exact xg.1) RoomE.mx (Nat.le_of_ble_eq_true rfl) (c_Row_isEmpty xg ?_)
  refine x_if_eq (tgt := 20) d_SD_drive_7 (by decide) (fun c7 => ?_) (fun c7 => ?_)
  · have hne : kG X ≠ [] := by
      rw [tk24 xgl] at c7
      exact fun z => of_decide_eq_false (bI_0 c7) (by rw [z]; rfl)
    first | refine x_aload_n d_SD_drive_20 rfl rfl ?_ | refine x_aloadN_n d_SD_drive_20 rfl rfl ?_ | refine x_aloadE_n d_SD_drive_20 rfl rfl ?_ | refine x_aloadO_n d_SD_drive_20 rfl rfl ?_
    refine x_getR d_SD_drive_21 f_SD_56 rfl (by assumption) (o7) ?_
    first | refine x_aload_n d_SD_drive_24 rfl rfl ?_ | refine x_aloadN_n d_SD_drive_24 rfl rfl ?_ | refine x_aloadE_n d_SD_drive_24 rfl rfl ?_ | refine x_aloadO_n d_SD_drive_24 rfl rfl ?_
    refine x_getR d_SD_drive_25 f_SD_18 rfl (by assumption) (o2) ?_
    refine x_callV1 d_SD_drive_28 k_Driver_begin l_SD_148 v_Driver_begin rfl s_Driver_begin (by exact xD.1) RoomE.mx (Nat.le_of_ble_eq_true rfl) (c_Driver_begin xD xT xg (by omega) (fun τ1 T1 f1 => ?_))
    refine x_iconst (v := 0) d_SD_drive_31 (by decide) ?_
    refine x_istore_n d_SD_drive_32 rfl rfl ?_
    rw [tk24 xgl, decide_eq_false (show ¬ 24 < (kG X).length by omega)] at T1
    have hX1 := hX.tree f1 T1
    have G1 := xG.P f1 (fun a h1 h2 => by unfold inG at h1; unfold inT at h2; omega)
    have tl : ∀ (n : Nat) (S0 S : GS) (T : TS) (τ : Mem) (o : Option Value), J n S T → dT X S0 = T → isCS Γ τ (K + 600) (kTr X T) → FrP inCS σ τ → Wq G M_SD_drive (EmX G (d + 7) 1 6 Q Y) 1 6 64 [some (rf G 0), o] [] [] Γ τ := by
      intro n S0 S T τ o hj hd hY f0
      subst hd
      obtain ⟨⟨o0, o1, o2, o3, o4, o5, o6, o7, o8, o9⟩, ⟨xt, xtl⟩, ⟨xg, xgl⟩, xi, xb, xs, xr, xT, xD, xG0, xR, ⟨ra, rb, xN⟩⟩ := id hY
      first | refine x_aload_n d_SD_drive_64 rfl rfl ?_ | refine x_aloadN_n d_SD_drive_64 rfl rfl ?_ | refine x_aloadE_n d_SD_drive_64 rfl rfl ?_ | refine x_aloadO_n d_SD_drive_64 rfl rfl ?_
      refine x_getR d_SD_drive_65 f_SD_47 rfl (by assumption) (o6) ?_
      refine x_callV0 d_SD_drive_68 k_Tree_isTooGreat l_SD_157 v_Tree_isTooGreat rfl s_Tree_isTooGreat (by exact xT.1) RoomE.mx (Nat.le_of_ble_eq_true rfl) (c_Tree_isTooGreat xT ?_)
      refine x_if_ne (tgt := 84) d_SD_drive_71 (by decide) (fun c71 => ?_) (fun c71 => ?_)
      · first | refine x_aload_n d_SD_drive_84 rfl rfl ?_ | refine x_aloadN_n d_SD_drive_84 rfl rfl ?_ | refine x_aloadE_n d_SD_drive_84 rfl rfl ?_ | refine x_aloadO_n d_SD_drive_84 rfl rfl ?_
        refine x_getR d_SD_drive_85 f_SD_47 rfl (by assumption) (o6) ?_
        refine x_callV0 d_SD_drive_88 k_Tree_clear l_SD_95 v_Tree_clear rfl s_Tree_clear (by exact xT.1) RoomE.mx (Nat.le_of_ble_eq_true rfl) (c_Tree_clear xT (fun τ1 T1 f1 => ?_))
        exact x_throw d_SD_drive_91 d_SD_drive_94 d_SD_drive_95 d_SD_drive_97 d_SD_drive_100 rfl thr_165 (hE1 hne S0 τ1 (bI_n0 c71) (by
          have z := (hY.tree (t131 f1) T1).mK (show K + 600 ≤ K + 700 by omega)
          exact z) (f0.tr (f1.P (by simp [inCS]))))
      · have hg : tG (dT X S0) = false := bI_0 c71
        have hB := ((hJA _ _ _ hj).2 hg).2
        first | refine x_aload_n d_SD_drive_74 rfl rfl ?_ | refine x_aloadN_n d_SD_drive_74 rfl rfl ?_ | refine x_aloadE_n d_SD_drive_74 rfl rfl ?_ | refine x_aloadO_n d_SD_drive_74 rfl rfl ?_
        refine x_getR d_SD_drive_75 f_SD_65 rfl (by assumption) (o8) ?_
        refine x_callV0 d_SD_drive_78 k_ResidualProgram_write l_SD_160 v_ResidualProgram_write rfl s_ResidualProgram_write (by exact xR.1) RoomE.mx (Nat.le_of_ble_eq_true rfl) (c_ResidualProgram_write xR xT xs xb (by omega) hB.1 hB.2 (fun τ1 T1 s1 b1 f1 => ?_))
        have hY1 := hY.wr f1 T1 s1 b1
        refine x_if_ne (tgt := 101) d_SD_drive_81 (by decide) (fun c81 => ?_) (fun c81 => ?_)
        · refine Wq.toX ?_
          first | refine x_aload_n d_SD_drive_101 rfl rfl ?_ | refine x_aloadN_n d_SD_drive_101 rfl rfl ?_ | refine x_aloadE_n d_SD_drive_101 rfl rfl ?_ | refine x_aloadO_n d_SD_drive_101 rfl rfl ?_
          refine x_getR d_SD_drive_102 f_SD_47 rfl (by assumption) (hY1.1.2.2.2.2.2.2.1) ?_
          refine x_callV0 d_SD_drive_105 k_Tree_count l_SD_151 v_Tree_count rfl s_Tree_count (by exact T1.1) RoomE.m (Nat.le_of_ble_eq_true rfl) (c_Tree_count T1 ?_)
          exact x_ireturn d_SD_drive_108 rfl (by first | rfl | decide) (hQ hne S0 τ1 hg (bI_n0 c81) (by
            have z := hY1.mK (show K + 600 + 48 ≤ K + 700 by omega)
            exact z) (f0.tr (f1.mono (fun a z => by unfold inW inT at z; unfold inCS; omega))))
        · first | refine x_aload_n d_SD_drive_84 rfl rfl ?_ | refine x_aloadN_n d_SD_drive_84 rfl rfl ?_ | refine x_aloadE_n d_SD_drive_84 rfl rfl ?_ | refine x_aloadO_n d_SD_drive_84 rfl rfl ?_
          refine x_getR d_SD_drive_85 f_SD_47 rfl (by assumption) (hY1.1.2.2.2.2.2.2.1) ?_
          refine x_callV0 d_SD_drive_88 k_Tree_clear l_SD_95 v_Tree_clear rfl s_Tree_clear (by exact T1.1) RoomE.mx (Nat.le_of_ble_eq_true rfl) (c_Tree_clear T1 (fun τ2 T2 f2 => ?_))
          exact x_throw d_SD_drive_91 d_SD_drive_94 d_SD_drive_95 d_SD_drive_97 d_SD_drive_100 rfl thr_165 (hE2 hne S0 τ2 hg (bI_0 c81) (by
            have z := (hY1.tree (t131 f2) T2).mK (show K + 600 + 48 ≤ K + 700 by omega)
            exact z) (f0.tr ((f1.mono (fun a z => by unfold inW inT at z; unfold inCS; omega)).tr (f2.P (by simp [inCS])))))
    have lp : ∀ (S0 : GS) (k n : Nat) (S : GS) (T : TS) (τ : Mem), n ≤ 48 → 48 < n + k → J n S T → dL (kP X) (kC X) (kB X) (48 - n) n S T = dL (kP X) (kC X) (kB X) 48 0 S0 (dBeg X) → isCS Γ τ (K + 12 * n) (kTr X T) → isGen Γ τ S → FrP inCS σ τ → Wq G M_SD_drive (EmX G (d + 7) 1 6 Q Y) 1 6 33 [some (rf G 0), some (.int (nI n))] [] [] Γ τ := by
      intro S0 k
      induction k with
      | zero => intro n S T τ hn hk; omega
      | succ k ih =>
      intro n S T τ hn48 hk hj hd hY xG f0
      obtain ⟨⟨o0, o1, o2, o3, o4, o5, o6, o7, o8, o9⟩, ⟨xt, xtl⟩, ⟨xg, xgl⟩, xi, xb, xs, xr, xT, xD, xG0, xR, ⟨ra, rb, xN⟩⟩ := id hY
      refine x_iload_n d_SD_drive_33 rfl rfl ?_
      refine x_bipush (v := 48) d_SD_drive_34 (by decide) ?_
      refine x_icmp_ge (tgt := 64) d_SD_drive_36 (by decide) (fun c36 => ?_) (fun c36 => ?_)
      · exact tl n S0 S T τ _ hj (by
          have e : n = 48 := by
            have := (nI_leI (by omega) (by omega)).mp (show nI 48 ≤ nI n from c36)
            omega
          have e2 : 48 - n = 0 := by omega
          rw [dT, ← hd, e2]; rfl) (hY.mK (by omega)) f0
      · have hn : n < 48 := Nat.not_le.mp fun z => c36 (show nI 48 ≤ nI n from nI_le z (by omega))
        refine x_iload_n d_SD_drive_39 rfl rfl ?_
        first | refine x_aload_n d_SD_drive_40 rfl rfl ?_ | refine x_aloadN_n d_SD_drive_40 rfl rfl ?_ | refine x_aloadE_n d_SD_drive_40 rfl rfl ?_ | refine x_aloadO_n d_SD_drive_40 rfl rfl ?_
        refine x_getR d_SD_drive_41 f_SD_47 rfl (by assumption) (o6) ?_
        refine x_callV0 d_SD_drive_44 k_Tree_count l_SD_151 v_Tree_count rfl s_Tree_count (by exact xT.1) RoomE.mx (Nat.le_of_ble_eq_true rfl) (c_Tree_count xT ?_)
        refine x_icmp_ge (tgt := 64) d_SD_drive_47 (by decide) (fun c47 => ?_) (fun c47 => ?_)
        · exact tl n S0 S T τ _ hj (by
            have e : ¬ n < tN T := fun z => nI_ge z (by have q : tN T ≤ 48 := xT.2.2.2.1.2; show tN T < 2 ^ 31; omega) c47
            rw [dT, ← hd, dL_end e]) (hY.mK (by omega)) f0
        · have hnt : n < tN T := Nat.not_le.mp fun z => c47 (nI_le z (by omega))
          first | refine x_aload_n d_SD_drive_50 rfl rfl ?_ | refine x_aloadN_n d_SD_drive_50 rfl rfl ?_ | refine x_aloadE_n d_SD_drive_50 rfl rfl ?_ | refine x_aloadO_n d_SD_drive_50 rfl rfl ?_
          refine x_getR d_SD_drive_51 f_SD_56 rfl (by assumption) (o7) ?_
          refine x_iload_n d_SD_drive_54 rfl rfl ?_
          refine x_callV1 d_SD_drive_55 k_Driver_settle l_SD_154 v_Driver_settle rfl s_Driver_settle (by exact xD.1) RoomE.mx (Nat.le_of_ble_eq_true rfl) (c_Driver_settle xD xT xs xr hOK xb xG (by omega) (by omega) (hJA _ _ _ hj).1 (fun z => ((hJA _ _ _ hj).2 z).1) (fun τ1 T1 g1 d1 b1 f1 => ?_))
          refine x_iinc (v := nI (n + 1)) d_SD_drive_58 rfl (nI_1 n) rfl ?_
          refine x_goto (tgt := 33) d_SD_drive_61 (by decide) ?_
          exact Wq.fg (ih (n + 1) _ _ τ1 (by omega) (by omega) (hJ n S T hj hn hnt) (by
            rw [show 48 - n = (48 - (n + 1)) + 1 by omega, dL, if_pos hnt] at hd
            exact hd) ((hY.drv f1 T1 d1 g1 b1).mK (by omega)) g1 (f0.tr (f1.mono (fun a z => by unfold inDr at z; unfold inCS; omega)))) ⟨rfl, rfl, trivial⟩
    exact Wq.fg (lp S 49 0 S (dBeg X) τ1 (by omega) (by omega) (h0 hne S) rfl (hX1.mK (by omega)) G1 (f1.mono (fun a z => by unfold inT at z; unfold inCS; omega))) ⟨rfl, by rw [nI_0], trivial⟩
  · exact x_throw d_SD_drive_10 d_SD_drive_13 d_SD_drive_14 d_SD_drive_16 d_SD_drive_19 rfl thr_146 (hE0 (by rw [tk24 xgl] at c7; exact List.eq_nil_of_length_eq_zero (of_decide_eq_true (bI_n0 c7))))
def fuBad (f : Int32) : Bool := if f < 1 then true else if f ≤ 500 then false else true
def rnBad (X : CS) (b : Bool) : Bool := (b && decide (tN (kR X) = 0)) || decide (kG X = []) || !aInp X
def runS (X : CS) (fuel : Nat) : Int32 × Nat × List Int32 := gRun (kC X) (ufs (kC X) (fun s x => (sB (kB X) s x).map (fun i => 33 + 2 + 2 * i))) (uL (kP X) (kC X) (kB X)) fuel fuel 0 ((kG X).flatMap (inpS (kI X)))
def runT (X : CS) (fuel : Nat) : Int32 × Nat × List Int32 := gRun (kC X) (ufs (kC X) (rBody (kR X))) (rL (kP X) (kC X) (kR X)) fuel fuel 0 ((r100 (kR X) 0).flatMap (inpS (kI X)))
def csRn (X : CS) (R : Int32 × Nat × List Int32) : CS := (X.1, X.2.1, X.2.2.1, X.2.2.2.1, X.2.2.2.2.1, X.2.2.2.2.2.1, X.2.2.2.2.2.2.1, R.2.2, R.1, R.2.1)
theorem fu_of {f : Int32} (h1 : ¬ f < 1) (h2 : f ≤ 500) : ∃ k : Nat, k ≤ 500 ∧ f = nI k := by
  refine nI_of2 (M := 500) (by decide) (fun z => h1 (Int32.lt_iff_toInt_lt.mpr ?_)) h2
  have := Int32.lt_iff_toInt_lt.mp z
  have q0 : (0 : Int32).toInt = 0 := by decide
  have q1 : (1 : Int32).toInt = 1 := by decide
  omega
set_option maxRecDepth 10000 in
set_option maxHeartbeats 1000000 in
theorem c_SD_run_f {G : Ctx} {d : Nat} {Γ : List Sh} {σ : Mem} {Q : Option Value → List Sh → Mem → Prop} {Y : String → List Sh → Mem → Prop} {K : Nat} {X : CS} {f : Int32}  (hX : isCS Γ σ K X) (hOK : SgOK (kP X) (kC X)) (hK : K + 1100 < 1000000000) (hE1 : fuBad f = true → Y "java/lang/IllegalArgumentException" (Γ ++ [(9, 0)]) (zr σ Γ.length)) (hE2 : fuBad f = false → rnBad X false = true → Y "java/lang/IllegalStateException" (Γ ++ [(9, 0)]) (zr σ Γ.length)) (hQ : ∀ k, k ≤ 500 → f = nI k → fuBad f = false → rnBad X false = false → ∀ σ', isCS Γ σ' (K + 1100) (csRn X (runS X k)) → FrP inCS σ σ' → Q (some (.int (runS X k).1)) Γ σ') : CtX G M_SD_run (d + 6) 1 6 [rf G 0, .int (bI false), .int f] Γ σ Q Y := by
  obtain ⟨⟨o0, o1, o2, o3, o4, o5, o6, o7, o8, o9⟩, ⟨xt, xtl⟩, ⟨xg, xgl⟩, xi, xb, xs, xr, xT, xD, ⟨S, xG⟩, xR, ⟨ra, rb, xN⟩⟩ := id hX

  refine CtX.of (lv := [some (rf G 0), some (.int (bI false)), some (.int f), none]) (ll := []) rfl rfl (EN.cat (n := 1) ⟨rfl, rfl, rfl, trivial⟩ (Nat.le_of_ble_eq_true rfl)) ?_
  refine x_iload_n d_SD_run_0 rfl rfl ?_
  refine x_iconst (v := 1) d_SD_run_1 (by decide) ?_
  refine x_icmp_lt (tgt := 12) d_SD_run_2 (by decide) (fun c2 => ?_) (fun c2 => ?_)
  · exact x_throw d_SD_run_12 d_SD_run_15 d_SD_run_16 d_SD_run_18 d_SD_run_21 rfl thr_201 (hE1 (by unfold fuBad; first | rw [if_pos c2] | rw [if_neg c2, if_neg c9]))
  · refine x_iload_n d_SD_run_5 rfl rfl ?_
    refine x_sipush (v := 500) d_SD_run_6 (by decide) ?_
    refine x_icmp_le (tgt := 22) d_SD_run_9 (by decide) (fun c9 => ?_) (fun c9 => ?_)
    · refine x_iload_n d_SD_run_22 rfl rfl ?_
      refine x_if_eq (tgt := 36) d_SD_run_23 (by decide) (fun c23 => ?_) (fun c23 => ?_)
      · first | refine x_aload_n d_SD_run_36 rfl rfl ?_ | refine x_aloadN_n d_SD_run_36 rfl rfl ?_ | refine x_aloadE_n d_SD_run_36 rfl rfl ?_ | refine x_aloadO_n d_SD_run_36 rfl rfl ?_
        refine x_getR d_SD_run_37 f_SD_18 rfl (by assumption) (o2) ?_
        first | refine x_astore_n d_SD_run_40 rfl rfl ?_ | refine x_astoreN_n d_SD_run_40 rfl rfl ?_ | refine x_astoreE_n d_SD_run_40 rfl rfl ?_ | refine x_astoreO_n d_SD_run_40 rfl rfl ?_
        first | refine x_aload_n d_SD_run_41 rfl rfl ?_ | refine x_aloadN_n d_SD_run_41 rfl rfl ?_ | refine x_aloadE_n d_SD_run_41 rfl rfl ?_ | refine x_aloadO_n d_SD_run_41 rfl rfl ?_
        refine x_ifnull d_SD_run_42 ?_
        first | refine x_aload_n d_SD_run_45 rfl rfl ?_ | refine x_aloadN_n d_SD_run_45 rfl rfl ?_ | refine x_aloadE_n d_SD_run_45 rfl rfl ?_ | refine x_aloadO_n d_SD_run_45 rfl rfl ?_
        refine x_getR d_SD_run_46 f_SD_18 rfl (by assumption) (o2) ?_
        refine x_callV0 d_SD_run_49 k_Row_isEmpty l_SD_142 v_Row_isEmpty rfl s_Row_isEmpty (by exact xg.1) RoomE.mx (Nat.le_of_ble_eq_true rfl) (c_Row_isEmpty xg ?_)
        refine x_if_ne (tgt := 62) d_SD_run_52 (by decide) (fun c52 => ?_) (fun c52 => ?_)
        · exact x_throw d_SD_run_62 d_SD_run_65 d_SD_run_66 d_SD_run_68 d_SD_run_71 rfl thr_210 (hE2 (by rw [fuBad, if_neg c2, if_pos c9]) (by rw [tk24 xgl] at c52; rw [rnBad, List.eq_nil_of_length_eq_zero (of_decide_eq_true (bI_n0 c52)), decide_eq_true rfl, Bool.or_true]; rfl))
        · have hne : kG X ≠ [] := by
            rw [tk24 xgl] at c52
            exact fun z => of_decide_eq_false (bI_0 c52) (by rw [z]; rfl)
          first | refine x_aload_n d_SD_run_55 rfl rfl ?_ | refine x_aloadN_n d_SD_run_55 rfl rfl ?_ | refine x_aloadE_n d_SD_run_55 rfl rfl ?_ | refine x_aloadO_n d_SD_run_55 rfl rfl ?_
          refine x_callV0 d_SD_run_56 k_SD_allInputsAreThere l_SD_207 v_SD_allInputsAreThere rfl s_SD_allInputsAreThere (by exact o0) RoomE.mx (Nat.le_of_ble_eq_true rfl) (c_SD_allInputsAreThere hX ?_)
          refine x_if_ne (tgt := 72) d_SD_run_59 (by decide) (fun c59 => ?_) (fun c59 => ?_)
          · obtain ⟨k, hk, rfl⟩ : ∃ k : Nat, k ≤ 500 ∧ f = nI k := fu_of c2 c9
            have hb : rnBad X false = false := by
              rw [rnBad, decide_eq_false (show ¬ kG X = [] from hne), bI_n0 c59]; rfl
            have hfu : fuBad (nI k) = false := by rw [fuBad, if_neg c2, if_pos c9]
            refine Wq.toX ?_
            first | refine x_aload_n d_SD_run_72 rfl rfl ?_ | refine x_aloadN_n d_SD_run_72 rfl rfl ?_ | refine x_aloadE_n d_SD_run_72 rfl rfl ?_ | refine x_aloadO_n d_SD_run_72 rfl rfl ?_
            refine x_getR d_SD_run_73 f_SD_72 rfl (by assumption) (o9) ?_
            first | refine x_aload_n d_SD_run_76 rfl rfl ?_ | refine x_aloadN_n d_SD_run_76 rfl rfl ?_ | refine x_aloadE_n d_SD_run_76 rfl rfl ?_ | refine x_aloadO_n d_SD_run_76 rfl rfl ?_
            first | refine x_aload_n d_SD_run_77 rfl rfl ?_ | refine x_aloadN_n d_SD_run_77 rfl rfl ?_ | refine x_aloadE_n d_SD_run_77 rfl rfl ?_ | refine x_aloadO_n d_SD_run_77 rfl rfl ?_
            refine x_getR d_SD_run_78 f_SD_21 rfl (by assumption) (o3) ?_
            refine x_callV2 d_SD_run_81 k_Runner_begin l_SD_212 v_Runner_begin rfl s_Runner_begin (by exact xN.1) RoomE.m (Nat.le_of_ble_eq_true rfl) (c_Runner_begin xN xi xb (by omega) xg (by omega) (fun τ1 N1 b1 f1 => ?_))
            rw [tk24 xgl] at N1
            have h1 := hX.rn (f1.mono (fun a z => z)) b1 N1
            refine x_iload_n d_SD_run_84 rfl rfl ?_
            refine x_if_eq (tgt := 103) d_SD_run_85 (by decide) (fun c85 => ?_) (fun c85 => ?_)
            · first | refine x_aload_n d_SD_run_103 rfl rfl ?_ | refine x_aloadN_n d_SD_run_103 rfl rfl ?_ | refine x_aloadE_n d_SD_run_103 rfl rfl ?_ | refine x_aloadO_n d_SD_run_103 rfl rfl ?_
              refine x_getR d_SD_run_104 f_SD_72 rfl (by assumption) (h1.1.2.2.2.2.2.2.2.2.2) ?_
              first | refine x_aload_n d_SD_run_107 rfl rfl ?_ | refine x_aloadN_n d_SD_run_107 rfl rfl ?_ | refine x_aloadE_n d_SD_run_107 rfl rfl ?_ | refine x_aloadO_n d_SD_run_107 rfl rfl ?_
              refine x_getR d_SD_run_108 f_SD_40 rfl (by assumption) (h1.1.2.2.2.2.2.1) ?_
              refine x_iload_n d_SD_run_111 rfl rfl ?_
              refine x_callV2 d_SD_run_112 k_Runner_go l_SD_215 v_Runner_go rfl s_Runner_go (by exact N1.1) RoomE.m (Nat.le_of_ble_eq_true rfl) (c_go_4 h1.2.2.2.2.2.2.1 N1 h1.2.2.2.2.2.1 hOK b1 (by omega) hk (fun τ2 ra2 rb2 N2 b2 f2 => ?_))
              exact x_ireturn d_SD_run_115 rfl (by first | rfl | decide) (hQ k hk rfl hfu hb τ2 (by
                have z := h1.rn (f2.mono (fun a z => z)) b2 N2
                have z2 := z.mK (show K + 1 + 1000 ≤ K + 1100 by omega)
                exact z2) ((f1.mono (fun a z => by unfold inR at z; unfold inCS; omega)).tr (f2.mono (fun a z => by unfold inR at z; unfold inCS; omega))))
            · exact absurd rfl c85
          · exact x_throw d_SD_run_62 d_SD_run_65 d_SD_run_66 d_SD_run_68 d_SD_run_71 rfl thr_210 (hE2 (by rw [fuBad, if_neg c2, if_pos c9]) (by rw [rnBad, bI_0 c59]; simp))
      · exact absurd rfl c23
    · exact x_throw d_SD_run_12 d_SD_run_15 d_SD_run_16 d_SD_run_18 d_SD_run_21 rfl thr_201 (hE1 (by unfold fuBad; first | rw [if_pos c2] | rw [if_neg c2, if_neg c9]))
set_option maxRecDepth 10000 in
set_option maxHeartbeats 1000000 in
theorem c_SD_run_t {G : Ctx} {d : Nat} {Γ : List Sh} {σ : Mem} {Q : Option Value → List Sh → Mem → Prop} {Y : String → List Sh → Mem → Prop} {K : Nat} {X : CS} {f : Int32}  (hX : isCS Γ σ K X) (hOK : SgOK (kP X) (kC X)) (hK : K + 1100 < 1000000000) (hB : BW (kR X)) (hE1 : fuBad f = true → Y "java/lang/IllegalArgumentException" (Γ ++ [(9, 0)]) (zr σ Γ.length)) (hE2 : fuBad f = false → rnBad X true = true → Y "java/lang/IllegalStateException" (Γ ++ [(9, 0)]) (zr σ Γ.length)) (hQ : ∀ k, k ≤ 500 → f = nI k → fuBad f = false → rnBad X true = false → ∀ σ', isCS Γ σ' (K + 1100) (csRn X (runT X k)) → FrP inCS σ σ' → Q (some (.int (runT X k).1)) Γ σ') : CtX G M_SD_run (d + 6) 1 6 [rf G 0, .int (bI true), .int f] Γ σ Q Y := by
  obtain ⟨⟨o0, o1, o2, o3, o4, o5, o6, o7, o8, o9⟩, ⟨xt, xtl⟩, ⟨xg, xgl⟩, xi, xb, xs, xr, xT, xD, ⟨S, xG⟩, xR, ⟨ra, rb, xN⟩⟩ := id hX

  refine CtX.of (lv := [some (rf G 0), some (.int (bI true)), some (.int f), none]) (ll := []) rfl rfl (EN.cat (n := 1) ⟨rfl, rfl, rfl, trivial⟩ (Nat.le_of_ble_eq_true rfl)) ?_
  refine x_iload_n d_SD_run_0 rfl rfl ?_
  refine x_iconst (v := 1) d_SD_run_1 (by decide) ?_
  refine x_icmp_lt (tgt := 12) d_SD_run_2 (by decide) (fun c2 => ?_) (fun c2 => ?_)
  · exact x_throw d_SD_run_12 d_SD_run_15 d_SD_run_16 d_SD_run_18 d_SD_run_21 rfl thr_201 (hE1 (by unfold fuBad; first | rw [if_pos c2] | rw [if_neg c2, if_neg c9]))
  · refine x_iload_n d_SD_run_5 rfl rfl ?_
    refine x_sipush (v := 500) d_SD_run_6 (by decide) ?_
    refine x_icmp_le (tgt := 22) d_SD_run_9 (by decide) (fun c9 => ?_) (fun c9 => ?_)
    · refine x_iload_n d_SD_run_22 rfl rfl ?_
      refine x_if_eq (tgt := 36) d_SD_run_23 (by decide) (fun c23 => ?_) (fun c23 => ?_)
      · exact absurd c23 (by decide)
      · first | refine x_aload_n d_SD_run_26 rfl rfl ?_ | refine x_aloadN_n d_SD_run_26 rfl rfl ?_ | refine x_aloadE_n d_SD_run_26 rfl rfl ?_ | refine x_aloadO_n d_SD_run_26 rfl rfl ?_
        refine x_getR d_SD_run_27 f_SD_65 rfl (by assumption) (o8) ?_
        refine x_callV0 d_SD_run_30 k_ResidualProgram_start l_SD_203 v_ResidualProgram_start rfl s_ResidualProgram_start (by exact xR.1) RoomE.mx (Nat.le_of_ble_eq_true rfl) (c_ResidualProgram_start xR xT ?_)
        refine x_goto (tgt := 40) d_SD_run_33 (by decide) ?_
        first | refine x_astore_n d_SD_run_40 rfl rfl ?_ | refine x_astoreN_n d_SD_run_40 rfl rfl ?_ | refine x_astoreE_n d_SD_run_40 rfl rfl ?_ | refine x_astoreO_n d_SD_run_40 rfl rfl ?_
        first | refine x_aload_n d_SD_run_41 rfl rfl ?_ | refine x_aloadN_n d_SD_run_41 rfl rfl ?_ | refine x_aloadE_n d_SD_run_41 rfl rfl ?_ | refine x_aloadO_n d_SD_run_41 rfl rfl ?_
        rcases hO42 : (if 0 < tN (kR X) then some 136 else none : Option Nat) with _ | k42
        · have hN0 : tN (kR X) = 0 := by
            by_cases z : 0 < tN (kR X)
            · rw [if_pos z] at hO42; cases hO42
            · omega
          refine x_ifnullN (tgt := 62) d_SD_run_42 (by decide) ?_
          exact x_throw d_SD_run_62 d_SD_run_65 d_SD_run_66 d_SD_run_68 d_SD_run_71 rfl thr_210 (hE2 (by rw [fuBad, if_neg c2, if_pos c9]) (by rw [rnBad, decide_eq_true (show tN (kR X) = 0 from hN0)]; rfl))
        · have hN : ¬ tN (kR X) = 0 := by
            intro z
            rw [z] at hO42
            cases hO42
          have e42 : k42 = 136 := by
            rw [if_pos (by omega)] at hO42
            cases hO42
            rfl
          subst e42
          have hr0 : isRow Γ σ 136 100 (nrs (tD (kR X) 0)) := (xT.nd (show 0 < 48 by omega)).2.2.2.2
          refine x_ifnull d_SD_run_42 ?_
          first | refine x_aload_n d_SD_run_45 rfl rfl ?_ | refine x_aloadN_n d_SD_run_45 rfl rfl ?_ | refine x_aloadE_n d_SD_run_45 rfl rfl ?_ | refine x_aloadO_n d_SD_run_45 rfl rfl ?_
          refine x_getR d_SD_run_46 f_SD_18 rfl (by assumption) (o2) ?_
          refine x_callV0 d_SD_run_49 k_Row_isEmpty l_SD_142 v_Row_isEmpty rfl s_Row_isEmpty (by exact xg.1) RoomE.mx (Nat.le_of_ble_eq_true rfl) (c_Row_isEmpty xg ?_)
          refine x_if_ne (tgt := 62) d_SD_run_52 (by decide) (fun c52 => ?_) (fun c52 => ?_)
          · exact x_throw d_SD_run_62 d_SD_run_65 d_SD_run_66 d_SD_run_68 d_SD_run_71 rfl thr_210 (hE2 (by rw [fuBad, if_neg c2, if_pos c9]) (by rw [tk24 xgl] at c52; rw [rnBad, List.eq_nil_of_length_eq_zero (of_decide_eq_true (bI_n0 c52)), decide_eq_true rfl, Bool.or_true]; rfl))
          · have hne : kG X ≠ [] := by
              rw [tk24 xgl] at c52
              exact fun z => of_decide_eq_false (bI_0 c52) (by rw [z]; rfl)
            first | refine x_aload_n d_SD_run_55 rfl rfl ?_ | refine x_aloadN_n d_SD_run_55 rfl rfl ?_ | refine x_aloadE_n d_SD_run_55 rfl rfl ?_ | refine x_aloadO_n d_SD_run_55 rfl rfl ?_
            refine x_callV0 d_SD_run_56 k_SD_allInputsAreThere l_SD_207 v_SD_allInputsAreThere rfl s_SD_allInputsAreThere (by exact o0) RoomE.mx (Nat.le_of_ble_eq_true rfl) (c_SD_allInputsAreThere hX ?_)
            refine x_if_ne (tgt := 72) d_SD_run_59 (by decide) (fun c59 => ?_) (fun c59 => ?_)
            · obtain ⟨k, hk, rfl⟩ : ∃ k : Nat, k ≤ 500 ∧ f = nI k := fu_of c2 c9
              have hb : rnBad X true = false := by
                rw [rnBad, decide_eq_false (show ¬ kG X = [] from hne), bI_n0 c59]; rw [decide_eq_false hN]; rfl
              have hfu : fuBad (nI k) = false := by rw [fuBad, if_neg c2, if_pos c9]
              refine Wq.toX ?_
              first | refine x_aload_n d_SD_run_72 rfl rfl ?_ | refine x_aloadN_n d_SD_run_72 rfl rfl ?_ | refine x_aloadE_n d_SD_run_72 rfl rfl ?_ | refine x_aloadO_n d_SD_run_72 rfl rfl ?_
              refine x_getR d_SD_run_73 f_SD_72 rfl (by assumption) (o9) ?_
              first | refine x_aload_n d_SD_run_76 rfl rfl ?_ | refine x_aloadN_n d_SD_run_76 rfl rfl ?_ | refine x_aloadE_n d_SD_run_76 rfl rfl ?_ | refine x_aloadO_n d_SD_run_76 rfl rfl ?_
              first | refine x_aload_n d_SD_run_77 rfl rfl ?_ | refine x_aloadN_n d_SD_run_77 rfl rfl ?_ | refine x_aloadE_n d_SD_run_77 rfl rfl ?_ | refine x_aloadO_n d_SD_run_77 rfl rfl ?_
              refine x_getR d_SD_run_78 f_SD_21 rfl (by assumption) (o3) ?_
              refine x_callV2 d_SD_run_81 k_Runner_begin l_SD_212 v_Runner_begin rfl s_Runner_begin (by exact xN.1) RoomE.m (Nat.le_of_ble_eq_true rfl) (c_Runner_begin xN xi xb (by omega) hr0 (by omega) (fun τ1 N1 b1 f1 => ?_))
              have h1 := hX.rn (f1.mono (fun a z => z)) b1 N1
              refine x_iload_n d_SD_run_84 rfl rfl ?_
              refine x_if_eq (tgt := 103) d_SD_run_85 (by decide) (fun c85 => ?_) (fun c85 => ?_)
              · exact absurd c85 (by decide)
              · first | refine x_aload_n d_SD_run_88 rfl rfl ?_ | refine x_aloadN_n d_SD_run_88 rfl rfl ?_ | refine x_aloadE_n d_SD_run_88 rfl rfl ?_ | refine x_aloadO_n d_SD_run_88 rfl rfl ?_
                refine x_getR d_SD_run_89 f_SD_72 rfl (by assumption) (h1.1.2.2.2.2.2.2.2.2.2) ?_
                first | refine x_aload_n d_SD_run_92 rfl rfl ?_ | refine x_aloadN_n d_SD_run_92 rfl rfl ?_ | refine x_aloadE_n d_SD_run_92 rfl rfl ?_ | refine x_aloadO_n d_SD_run_92 rfl rfl ?_
                refine x_getR d_SD_run_93 f_SD_65 rfl (by assumption) (h1.1.2.2.2.2.2.2.2.2.1) ?_
                refine x_iload_n d_SD_run_96 rfl rfl ?_
                refine x_callV2 d_SD_run_97 k_Runner_go l_SD_215 v_Runner_go rfl s_Runner_go (by exact N1.1) RoomE.m (Nat.le_of_ble_eq_true rfl) (c_go_9 h1.2.2.2.2.2.2.2.2.2.2.1 h1.2.2.2.2.2.2.2.1 hB N1 h1.2.2.2.2.2.1 hOK b1 (by omega) hk (fun τ2 ra2 rb2 N2 b2 f2 => ?_))
                refine x_goto (tgt := 115) d_SD_run_100 (by decide) ?_
                exact x_ireturn d_SD_run_115 rfl (by first | rfl | decide) (hQ k hk rfl hfu hb τ2 (by
                  have z := h1.rn (f2.mono (fun a z => z)) b2 N2
                  have z2 := z.mK (show K + 1 + 1000 ≤ K + 1100 by omega)
                  exact z2) ((f1.mono (fun a z => by unfold inR at z; unfold inCS; omega)).tr (f2.mono (fun a z => by unfold inR at z; unfold inCS; omega))))
            · exact x_throw d_SD_run_62 d_SD_run_65 d_SD_run_66 d_SD_run_68 d_SD_run_71 rfl thr_210 (hE2 (by rw [fuBad, if_neg c2, if_pos c9]) (by rw [rnBad, bI_0 c59]; simp))
    · exact x_throw d_SD_run_12 d_SD_run_15 d_SD_run_16 d_SD_run_18 d_SD_run_21 rfl thr_201 (hE1 (by unfold fuBad; first | rw [if_pos c2] | rw [if_neg c2, if_neg c9]))
