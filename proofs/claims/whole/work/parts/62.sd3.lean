/-! SuperDriver: the methods that throw -/
theorem tc_IAE : gd (.classLink "SuperDriver" 97 "java/lang/IllegalArgumentException") := ⟨tb3_in (i := 9) rfl, rfl⟩
theorem ti_IAE : gd (.instantiable "java/lang/IllegalArgumentException" 6) := ⟨tb3_in (i := 10) rfl, rfl⟩
theorem tn_IAE : gd (.initialized "java/lang/IllegalArgumentException") := ⟨tb1_in (i := 18) rfl, rfl⟩
theorem tc_ISE : gd (.classLink "SuperDriver" 108 "java/lang/IllegalStateException") := ⟨tb3_in (i := 82) rfl, rfl⟩
theorem ti_ISE : gd (.instantiable "java/lang/IllegalStateException" 6) := ⟨tb3_in (i := 83) rfl, rfl⟩
theorem tn_ISE : gd (.initialized "java/lang/IllegalStateException") := ⟨tb1_in (i := 19) rfl, rfl⟩
theorem tc_UOE : gd (.classLink "SuperDriver" 163 "java/lang/UnsupportedOperationException") := ⟨tb4_in (i := 210) rfl, rfl⟩
theorem ti_UOE : gd (.instantiable "java/lang/UnsupportedOperationException" 6) := ⟨tb4_in (i := 211) rfl, rfl⟩
theorem tn_UOE : gd (.initialized "java/lang/UnsupportedOperationException") := ⟨tb1_in (i := 21) rfl, rfl⟩
theorem thr_99 : THR "SuperDriver" 97 99 101 "java/lang/IllegalArgumentException" "no such function or number of parts" := ⟨tc_IAE, ti_IAE, tn_IAE, tb3_in (i := 50) rfl, by decide +kernel, own_IAE, ownA_IAE, ownB_IAE, ownG_IAE⟩
theorem thr_110 : THR "SuperDriver" 108 110 112 "java/lang/IllegalStateException" "the function is declared" := ⟨tc_ISE, ti_ISE, tn_ISE, tb3_in (i := 91) rfl, by decide +kernel, own_ISE, ownA_ISE, ownB_ISE, ownG_ISE⟩
theorem thr_117 : THR "SuperDriver" 108 117 112 "java/lang/IllegalStateException" "the function is not declared" := ⟨tc_ISE, ti_ISE, tn_ISE, tb3_in (i := 109) rfl, by decide +kernel, own_ISE, ownA_ISE, ownB_ISE, ownG_ISE⟩
theorem thr_123 : THR "SuperDriver" 97 123 101 "java/lang/IllegalArgumentException" "no such clause, or no body for it" := ⟨tc_IAE, ti_IAE, tn_IAE, tb3_in (i := 128) rfl, by decide +kernel, own_IAE, ownA_IAE, ownB_IAE, ownG_IAE⟩
theorem thr_133 : THR "SuperDriver" 97 133 101 "java/lang/IllegalArgumentException" "the text is no term" := ⟨tc_IAE, ti_IAE, tn_IAE, tb3_in (i := 146) rfl, by decide +kernel, own_IAE, ownA_IAE, ownB_IAE, ownG_IAE⟩
theorem thr_146 : THR "SuperDriver" 108 146 112 "java/lang/IllegalStateException" "there is no goal" := ⟨tc_ISE, ti_ISE, tn_ISE, tb3_in (i := 159) rfl, by decide +kernel, own_ISE, ownA_ISE, ownB_ISE, ownG_ISE⟩
theorem thr_165 : THR "SuperDriver" 163 165 167 "java/lang/UnsupportedOperationException" "the goal is too great to drive" := ⟨tc_UOE, ti_UOE, tn_UOE, tb4_in (i := 219) rfl, by decide +kernel, own_UOE, ownA_UOE, ownB_UOE, ownG_UOE⟩
theorem thr_201 : THR "SuperDriver" 97 201 101 "java/lang/IllegalArgumentException" "no such fuel" := ⟨tc_IAE, ti_IAE, tn_IAE, tb4_in (i := 233) rfl, by decide +kernel, own_IAE, ownA_IAE, ownB_IAE, ownG_IAE⟩
theorem thr_210 : THR "SuperDriver" 108 210 112 "java/lang/IllegalStateException" "there is no goal, no tree, or no input for the goal" := ⟨tc_ISE, ti_ISE, tn_ISE, tb5_in (i := 2) rfl, by decide +kernel, own_ISE, ownA_ISE, ownB_ISE, ownG_ISE⟩
def fnBad (f n : Int32) : Bool := if f < 0 then true else if 8 ≤ f then true else if n < 1 then true else if n ≤ 3 then false else true
def csFn (X : CS) (f n : Int32) (b : Bool) : CS := (X.1, X.2.1, X.2.2.1, upN X.2.2.2.1 (200 + f.toNatClampNeg) n, upN X.2.2.2.2.1 (200 + f.toNatClampNeg) b, X.2.2.2.2.2.1, tClr X.2.2.2.2.2.2.1, X.2.2.2.2.2.2.2)
theorem isCS.sgn {Γ : List Sh} {σ σ' : Mem} {K : Nat} {X : CS} {pt : Nat → Int32} {cs : Nat → Bool} (h : isCS Γ σ K X) (hf : FrI [28, 29] σ σ') (hr : isSg Γ σ' 27 pt cs) : isCS Γ σ' K (X.1, X.2.1, X.2.2.1, pt, cs, X.2.2.2.2.2) := by
  obtain ⟨a1, ⟨a2, b2⟩, ⟨a3, b3⟩, a4, a5, a6, a7, a8, a9, ⟨S, a10⟩, a11, a12⟩ := h
  have hf' : FrP (fun a => a = 28 ∨ a = 29) σ σ' := hf.P (by simp)
  exact ⟨a1.P hf' (by omega), ⟨a2.P hf' (by omega) (by omega), b2⟩, ⟨a3.P hf' (by omega) (by omega), b3⟩, a4.P hf' (fun a h1 h2 => by omega), a5.P hf' (fun a h1 h2 => by omega), hr, a7.P hf' (fun a h1 h2 => by omega), a8.P hf' (fun a h1 => by unfold inT at h1; omega), a9.P hf' (fun a h1 => by unfold inD at h1; omega), ⟨S, a10.P hf' (fun a h1 => by unfold inG at h1; omega)⟩, a11.P hf' (by omega), a12.P hf' (fun a h1 => by unfold inR at h1; omega)⟩
set_option maxRecDepth 10000 in
set_option maxHeartbeats 1000000 in
theorem c_SD_function {G : Ctx} {d : Nat} {Γ : List Sh} {σ : Mem} {Q : Option Value → List Sh → Mem → Prop} {Y : String → List Sh → Mem → Prop} {K : Nat} {X : CS} {f n : Int32} {b : Bool}  (hX : isCS Γ σ K X) (hE1 : fnBad f n = true → Y "java/lang/IllegalArgumentException" (Γ ++ [(9, 0)]) (zr σ Γ.length)) (hE2 : fnBad f n = false → dcl (kP X) f = true → Y "java/lang/IllegalStateException" (Γ ++ [(9, 0)]) (zr σ Γ.length)) (hQ : fnBad f n = false → dcl (kP X) f = false → ∀ σ', isCS Γ σ' K (csFn X f n b) → FrP inCS σ σ' → Q none Γ σ') : CtX G M_SD_function (d + 6) 1 6 [rf G 0, .int f, .int n, .int (bI b)] Γ σ Q Y := by
  obtain ⟨⟨o0, o1, o2, o3, o4, o5, o6, o7, o8, o9⟩, ⟨xt, xtl⟩, ⟨xg, xgl⟩, xi, xb, xs, xr, xT, xD, ⟨S, xG⟩, xR, ⟨ra, rb, xN⟩⟩ := id hX

  refine CtX.of (lv := [some (rf G 0), some (.int f), some (.int n), some (.int (bI b))]) (ll := []) rfl rfl (EN.cat (n := 0) ⟨rfl, rfl, rfl, rfl, trivial⟩ (Nat.le_of_ble_eq_true rfl)) ?_
  refine x_iload_n d_SD_function_0 rfl rfl ?_
  refine x_if_lt (tgt := 20) d_SD_function_1 (by decide) (fun c1 => ?_) (fun c1 => ?_)
  · exact x_throw d_SD_function_20 d_SD_function_23 d_SD_function_24 d_SD_function_26 d_SD_function_29 rfl thr_99 (by
      refine hE1 ?_
      unfold fnBad
      first
      | rw [if_pos c1]
      | rw [if_neg c1, if_pos c7]
      | rw [if_neg c1, if_neg c7, if_pos c12]
      | rw [if_neg c1, if_neg c7, if_neg c12, if_neg c17])
  · refine x_iload_n d_SD_function_4 rfl rfl ?_
    refine x_bipush (v := 8) d_SD_function_5 (by decide) ?_
    refine x_icmp_ge (tgt := 20) d_SD_function_7 (by decide) (fun c7 => ?_) (fun c7 => ?_)
    · exact x_throw d_SD_function_20 d_SD_function_23 d_SD_function_24 d_SD_function_26 d_SD_function_29 rfl thr_99 (by
        refine hE1 ?_
        unfold fnBad
        first
        | rw [if_pos c1]
        | rw [if_neg c1, if_pos c7]
        | rw [if_neg c1, if_neg c7, if_pos c12]
        | rw [if_neg c1, if_neg c7, if_neg c12, if_neg c17])
    · refine x_iload_n d_SD_function_10 rfl rfl ?_
      refine x_iconst (v := 1) d_SD_function_11 (by decide) ?_
      refine x_icmp_lt (tgt := 20) d_SD_function_12 (by decide) (fun c12 => ?_) (fun c12 => ?_)
      · exact x_throw d_SD_function_20 d_SD_function_23 d_SD_function_24 d_SD_function_26 d_SD_function_29 rfl thr_99 (by
          refine hE1 ?_
          unfold fnBad
          first
          | rw [if_pos c1]
          | rw [if_neg c1, if_pos c7]
          | rw [if_neg c1, if_neg c7, if_pos c12]
          | rw [if_neg c1, if_neg c7, if_neg c12, if_neg c17])
      · refine x_iload_n d_SD_function_15 rfl rfl ?_
        refine x_iconst (v := 3) d_SD_function_16 (by decide) ?_
        refine x_icmp_le (tgt := 30) d_SD_function_17 (by decide) (fun c17 => ?_) (fun c17 => ?_)
        · have g1 : ¬ f < 0 := c1
          have g2 : ¬ 8 ≤ f := c7
          have hbad : fnBad f n = false := by rw [fnBad, if_neg c1, if_neg c7, if_neg c12, if_pos c17]
          first | refine x_aload_n d_SD_function_30 rfl rfl ?_ | refine x_aloadN_n d_SD_function_30 rfl rfl ?_ | refine x_aloadE_n d_SD_function_30 rfl rfl ?_ | refine x_aloadO_n d_SD_function_30 rfl rfl ?_
          refine x_getR d_SD_function_31 f_SD_40 rfl (by assumption) (o5) ?_
          refine x_iload_n d_SD_function_34 rfl rfl ?_
          refine x_callV1 d_SD_function_35 k_SourceProgram_isDeclared l_SD_104 v_SourceProgram_isDeclared rfl s_SourceProgram_isDeclared (by exact xr.1) RoomE.mx (Nat.le_of_ble_eq_true rfl) (c_SourceProgram_isDeclared xr xs ?_)
          refine x_if_eq (tgt := 51) d_SD_function_38 (by decide) (fun c38 => ?_) (fun c38 => ?_)
          · have hdc : dcl (kP X) f = false := bI_0 c38
            refine Wq.toX ?_
            first | refine x_aload_n d_SD_function_51 rfl rfl ?_ | refine x_aloadN_n d_SD_function_51 rfl rfl ?_ | refine x_aloadE_n d_SD_function_51 rfl rfl ?_ | refine x_aloadO_n d_SD_function_51 rfl rfl ?_
            refine x_getR d_SD_function_52 f_SD_40 rfl (by assumption) (o5) ?_
            refine x_iload_n d_SD_function_55 rfl rfl ?_
            refine x_iload_n d_SD_function_56 rfl rfl ?_
            refine x_iload_n d_SD_function_57 rfl rfl ?_
            refine x_callV3 d_SD_function_58 k_SourceProgram_declare l_SD_113 v_SourceProgram_declare rfl s_SourceProgram_declare (by exact xr.1) RoomE.m (Nat.le_of_ble_eq_true rfl) (c_SourceProgram_declare (b := b) xr xs g1 g2 (fun τ1 s1 f1 => ?_))
            first | refine x_aload_n d_SD_function_61 rfl rfl ?_ | refine x_aloadN_n d_SD_function_61 rfl rfl ?_ | refine x_aloadE_n d_SD_function_61 rfl rfl ?_ | refine x_aloadO_n d_SD_function_61 rfl rfl ?_
            refine x_getR d_SD_function_62 f_SD_47 rfl (by assumption) (by rw [f1.1]; exact o6) ?_
            refine x_callV0 d_SD_function_65 k_Tree_clear l_SD_95 v_Tree_clear rfl s_Tree_clear (by exact xT.1) RoomE.m (Nat.le_of_ble_eq_true rfl) (c_Tree_clear (xT.P (f1.P (T := fun a => a = 28 ∨ a = 29) (by simp)) (fun a ha hb => by unfold inT at ha; omega)) (fun τ2 T2 f2 => ?_))
            exact x_return d_SD_function_68 rfl (hQ hbad hdc τ2 (by
              have h1 := hX.sgn (f1.mono (by simp)) s1
              exact h1.tree (t131 f2) T2) ((f1.P (by simp [inCS])).tr (f2.P (by simp [inCS]))))
          · exact x_throw d_SD_function_41 d_SD_function_44 d_SD_function_45 d_SD_function_47 d_SD_function_50 rfl thr_110 (hE2 hbad (bI_n0 c38))
        · exact x_throw d_SD_function_20 d_SD_function_23 d_SD_function_24 d_SD_function_26 d_SD_function_29 rfl thr_99 (by
            refine hE1 ?_
            unfold fnBad
            first
            | rw [if_pos c1]
            | rw [if_neg c1, if_pos c7]
            | rw [if_neg c1, if_neg c7, if_pos c12]
            | rw [if_neg c1, if_neg c7, if_neg c12, if_neg c17])
def csBd (X : CS) (f x : Int32) : CS := ([], X.2.1, X.2.2.1, X.2.2.2.1, X.2.2.2.2.1, (match plc (200 + f) x with | some i => upN X.2.2.2.2.2.1 i (kT X) | none => X.2.2.2.2.2.1), tClr X.2.2.2.2.2.2.1, X.2.2.2.2.2.2.2)
theorem isCS.src {Γ : List Sh} {σ σ' : Mem} {K i : Nat} {X : CS} {bd : Nat → List Int32} (h : isCS Γ σ K X) (hi : i < 48) (hf : FrI [33 + 2 + 2 * i, 33 + 2 + 2 * i + 1] σ σ') (hr : isSrc Γ σ' 33 27 22 bd) : isCS Γ σ' K (X.1, X.2.1, X.2.2.1, X.2.2.2.1, X.2.2.2.2.1, bd, X.2.2.2.2.2.2) := by
  obtain ⟨a1, ⟨a2, b2⟩, ⟨a3, b3⟩, a4, a5, a6, a7, a8, a9, ⟨S, a10⟩, a11, a12⟩ := h
  have hf' : FrP (fun a => a = 33 + 2 + 2 * i ∨ a = 33 + 2 + 2 * i + 1) σ σ' := hf.P (by simp)
  exact ⟨a1.P hf' (by omega), ⟨a2.P hf' (by omega) (by omega), b2⟩, ⟨a3.P hf' (by omega) (by omega), b3⟩, a4.P hf' (fun a h1 h2 => by omega), a5.P hf' (fun a h1 h2 => by omega), a6.P hf' (by omega) (by omega) (by omega), hr, a8.P hf' (fun a h1 => by unfold inT at h1; omega), a9.P hf' (fun a h1 => by unfold inD at h1; omega), ⟨S, a10.P hf' (fun a h1 => by unfold inG at h1; omega)⟩, a11.P hf' (by omega), a12.P hf' (fun a h1 => by unfold inR at h1; omega)⟩
theorem dcl_in {pt : Nat → Int32} {f : Int32} (h : dcl pt f = true) : ¬ f < 0 ∧ ¬ 8 ≤ f := by
  unfold dcl at h
  by_cases a : f < 0
  · rw [if_pos a] at h; cases h
  · rw [if_neg a] at h
    by_cases b : 8 ≤ f
    · rw [if_pos b] at h; cases h
    · exact ⟨a, b⟩
theorem mhv_pl {pt : Nat → Int32} {cs : Nat → Bool} {f x : Int32} {zs : List Int32} (h1 : ¬ f < 0) (h8 : ¬ 8 ≤ f) (h : mhv pt cs f x zs = true) : ∃ i, plc (200 + f) x = some i := by
  have e : 200 + f - 200 = f := by rw [Int32.add_comm]; exact Int32.add_sub_cancel _ _
  have hx : ¬ x < -1 ∧ x < 6 := by
    unfold mhv at h
    split at h
    · by_cases a : x < 0
      · rw [if_pos a] at h; cases h
      · rw [if_neg a] at h
        by_cases b : x < 6
        · refine ⟨fun z => a ?_, b⟩
          rw [Int32.lt_iff_toInt_lt] at z ⊢
          have q1 : (-1 : Int32).toInt = -1 := by decide
          have q2 : (0 : Int32).toInt = 0 := by decide
          omega
        · rw [if_neg b] at h; cases h
    · by_cases a : x = -1
      · rw [a]; exact ⟨by decide, by decide⟩
      · rw [if_neg a] at h; cases h
  unfold plc
  rw [e, if_neg h1, if_neg h8, if_neg hx.1, if_pos hx.2]
  exact ⟨_, rfl⟩
set_option maxRecDepth 10000 in
set_option maxHeartbeats 1000000 in
theorem c_SD_body {G : Ctx} {d : Nat} {Γ : List Sh} {σ : Mem} {Q : Option Value → List Sh → Mem → Prop} {Y : String → List Sh → Mem → Prop} {K : Nat} {X : CS} {f x : Int32}  (hX : isCS Γ σ K X) (hE1 : dcl (kP X) f = false → Y "java/lang/IllegalStateException" (Γ ++ [(9, 0)]) (zr σ Γ.length)) (hE2 : dcl (kP X) f = true → mhv (kP X) (kC X) f x (kT X) = false → Y "java/lang/IllegalArgumentException" (Γ ++ [(9, 0)]) (zr σ Γ.length)) (hQ : dcl (kP X) f = true → mhv (kP X) (kC X) f x (kT X) = true → ∀ σ', isCS Γ σ' K (csBd X f x) → FrP inCS σ σ' → Q none Γ σ') : CtX G M_SD_body (d + 6) 1 6 [rf G 0, .int f, .int x] Γ σ Q Y := by
  obtain ⟨⟨o0, o1, o2, o3, o4, o5, o6, o7, o8, o9⟩, ⟨xt, xtl⟩, ⟨xg, xgl⟩, xi, xb, xs, xr, xT, xD, ⟨S, xG⟩, xR, ⟨ra, rb, xN⟩⟩ := id hX

  refine CtX.of (lv := [some (rf G 0), some (.int f), some (.int x)]) (ll := []) rfl rfl (EN.cat (n := 0) ⟨rfl, rfl, rfl, trivial⟩ (Nat.le_of_ble_eq_true rfl)) ?_
  first | refine x_aload_n d_SD_body_0 rfl rfl ?_ | refine x_aloadN_n d_SD_body_0 rfl rfl ?_ | refine x_aloadE_n d_SD_body_0 rfl rfl ?_ | refine x_aloadO_n d_SD_body_0 rfl rfl ?_
  refine x_getR d_SD_body_1 f_SD_40 rfl (by assumption) (o5) ?_
  refine x_iload_n d_SD_body_4 rfl rfl ?_
  refine x_callV1 d_SD_body_5 k_SourceProgram_isDeclared l_SD_104 v_SourceProgram_isDeclared rfl s_SourceProgram_isDeclared (by exact xr.1) RoomE.mx (Nat.le_of_ble_eq_true rfl) (c_SourceProgram_isDeclared xr xs ?_)
  refine x_if_ne (tgt := 21) d_SD_body_8 (by decide) (fun c8 => ?_) (fun c8 => ?_)
  · first | refine x_aload_n d_SD_body_21 rfl rfl ?_ | refine x_aloadN_n d_SD_body_21 rfl rfl ?_ | refine x_aloadE_n d_SD_body_21 rfl rfl ?_ | refine x_aloadO_n d_SD_body_21 rfl rfl ?_
    refine x_getR d_SD_body_22 f_SD_40 rfl (by assumption) (o5) ?_
    refine x_iload_n d_SD_body_25 rfl rfl ?_
    refine x_iload_n d_SD_body_26 rfl rfl ?_
    first | refine x_aload_n d_SD_body_27 rfl rfl ?_ | refine x_aloadN_n d_SD_body_27 rfl rfl ?_ | refine x_aloadE_n d_SD_body_27 rfl rfl ?_ | refine x_aloadO_n d_SD_body_27 rfl rfl ?_
    refine x_getR d_SD_body_28 f_SD_14 rfl (by assumption) (o1) ?_
    refine x_callV3 d_SD_body_31 k_SourceProgram_mayHave l_SD_119 v_SourceProgram_mayHave rfl s_SourceProgram_mayHave (by exact xr.1) RoomE.mx (Nat.le_of_ble_eq_true rfl) (c_SourceProgram_mayHave xr xs xt ?_)
    refine x_if_ne (tgt := 47) d_SD_body_34 (by decide) (fun c34 => ?_) (fun c34 => ?_)
    · have hdc : dcl (kP X) f = true := bI_n0 c8
      rw [tk24 xtl] at c34
      have hmh : mhv (kP X) (kC X) f x (kT X) = true := bI_n0 c34
      obtain ⟨i, hpl⟩ := mhv_pl (dcl_in hdc).1 (dcl_in hdc).2 hmh
      have hi := plc_lt hpl
      refine Wq.toX ?_
      first | refine x_aload_n d_SD_body_47 rfl rfl ?_ | refine x_aloadN_n d_SD_body_47 rfl rfl ?_ | refine x_aloadE_n d_SD_body_47 rfl rfl ?_ | refine x_aloadO_n d_SD_body_47 rfl rfl ?_
      refine x_getR d_SD_body_48 f_SD_40 rfl (by assumption) (o5) ?_
      refine x_iload_n d_SD_body_51 rfl rfl ?_
      refine x_iload_n d_SD_body_52 rfl rfl ?_
      first | refine x_aload_n d_SD_body_53 rfl rfl ?_ | refine x_aloadN_n d_SD_body_53 rfl rfl ?_ | refine x_aloadE_n d_SD_body_53 rfl rfl ?_ | refine x_aloadO_n d_SD_body_53 rfl rfl ?_
      refine x_getR d_SD_body_54 f_SD_14 rfl (by assumption) (o1) ?_
      refine x_callV3 d_SD_body_57 k_SourceProgram_define l_SD_125 v_SourceProgram_define rfl s_SourceProgram_define (by exact xr.1) RoomE.m (Nat.le_of_ble_eq_true rfl) (c_SourceProgram_define xr xt hpl (by omega) (fun τ1 s1 f1 => ?_))
      first | refine x_aload_n d_SD_body_60 rfl rfl ?_ | refine x_aloadN_n d_SD_body_60 rfl rfl ?_ | refine x_aloadE_n d_SD_body_60 rfl rfl ?_ | refine x_aloadO_n d_SD_body_60 rfl rfl ?_
      refine x_getR d_SD_body_61 f_SD_14 rfl (by assumption) (by rw [f1.1]; exact o1) ?_
      refine x_callV0 d_SD_body_64 k_Row_clear l_SD_91 v_Row_clear rfl s_Row_clear (by exact xt.1) RoomE.m (Nat.le_of_ble_eq_true rfl) (c_Row_clear (xt.fr f1 (by simp; omega) (by simp; omega)) (fun τ2 r2 f2 => ?_))
      first | refine x_aload_n d_SD_body_67 rfl rfl ?_ | refine x_aloadN_n d_SD_body_67 rfl rfl ?_ | refine x_aloadE_n d_SD_body_67 rfl rfl ?_ | refine x_aloadO_n d_SD_body_67 rfl rfl ?_
      refine x_getR d_SD_body_68 f_SD_47 rfl (by assumption) (by rw [f2.1, f1.1]; exact o6) ?_
      refine x_callV0 d_SD_body_71 k_Tree_clear l_SD_95 v_Tree_clear rfl s_Tree_clear (by exact xT.1) RoomE.m (Nat.le_of_ble_eq_true rfl) (c_Tree_clear ((xT.P (f1.P (T := fun a => a = 33 + 2 + 2 * i ∨ a = 33 + 2 + 2 * i + 1) (by simp)) (fun a ha hb => by unfold inT at ha; omega)).P (f2.P (T := fun a => a = 1) (by simp)) (fun a ha hb => by unfold inT at ha; omega)) (fun τ3 T3 f3 => ?_))
      exact x_return d_SD_body_74 rfl (hQ hdc hmh τ3 (by
        rw [tk24 xtl] at s1
        have h1 := hX.src hi f1 s1
        have h2 := h1.text (f2.mono (by simp)) r2 (Nat.zero_le _)
        have h3 := h2.tree (t131 f3) T3
        rw [csBd, hpl]
        exact h3) (((f1.P (by simp [inCS]; omega)).tr (f2.P (by simp [inCS]))).tr (f3.P (by simp [inCS]))))
    · exact x_throw d_SD_body_37 d_SD_body_40 d_SD_body_41 d_SD_body_43 d_SD_body_46 rfl thr_123 (hE2 (bI_n0 c8) (by rw [tk24 xtl] at c34; exact bI_0 c34))
  · exact x_throw d_SD_body_11 d_SD_body_14 d_SD_body_15 d_SD_body_17 d_SD_body_20 rfl thr_117 (hE1 (bI_0 c8))
def csGl (X : CS) : CS := ([], kT X, X.2.2.1, X.2.2.2.1, X.2.2.2.2.1, X.2.2.2.2.2.1, tClr X.2.2.2.2.2.2.1, X.2.2.2.2.2.2.2)
set_option maxRecDepth 10000 in
set_option maxHeartbeats 1000000 in
theorem c_SD_goal {G : Ctx} {d : Nat} {Γ : List Sh} {σ : Mem} {Q : Option Value → List Sh → Mem → Prop} {Y : String → List Sh → Mem → Prop} {K : Nat} {X : CS}  (hX : isCS Γ σ K X) (hE : trm (sgP (kP X)) (kT X) 1 = false → Y "java/lang/IllegalArgumentException" (Γ ++ [(9, 0)]) (zr σ Γ.length)) (hQ : trm (sgP (kP X)) (kT X) 1 = true → ∀ σ', isCS Γ σ' K (csGl X) → FrP inCS σ σ' → Q none Γ σ') : CtX G M_SD_goal (d + 6) 1 6 [rf G 0] Γ σ Q Y := by
  obtain ⟨⟨o0, o1, o2, o3, o4, o5, o6, o7, o8, o9⟩, ⟨xt, xtl⟩, ⟨xg, xgl⟩, xi, xb, xs, xr, xT, xD, ⟨S, xG⟩, xR, ⟨ra, rb, xN⟩⟩ := id hX

  refine CtX.of (lv := [some (rf G 0)]) (ll := []) rfl rfl (EN.cat (n := 0) ⟨rfl, trivial⟩ (Nat.le_of_ble_eq_true rfl)) ?_
  first | refine x_aload_n d_SD_goal_0 rfl rfl ?_ | refine x_aloadN_n d_SD_goal_0 rfl rfl ?_ | refine x_aloadE_n d_SD_goal_0 rfl rfl ?_ | refine x_aloadO_n d_SD_goal_0 rfl rfl ?_
  refine x_getR d_SD_goal_1 f_SD_31 rfl (by assumption) (o4) ?_
  first | refine x_aload_n d_SD_goal_4 rfl rfl ?_ | refine x_aloadN_n d_SD_goal_4 rfl rfl ?_ | refine x_aloadE_n d_SD_goal_4 rfl rfl ?_ | refine x_aloadO_n d_SD_goal_4 rfl rfl ?_
  refine x_getR d_SD_goal_5 f_SD_14 rfl (by assumption) (o1) ?_
  refine x_callV1 d_SD_goal_8 k_Signs_isTerm l_SD_129 v_Signs_isTerm rfl s_Signs_isTerm (by exact xs.1.1) RoomE.mx (Nat.le_of_ble_eq_true rfl) (c_Signs_isTerm xs xt ?_)
  refine x_if_ne (tgt := 24) d_SD_goal_11 (by decide) (fun c11 => ?_) (fun c11 => ?_)
  · rw [tk24 xtl] at c11
    have htm : trm (sgP (kP X)) (kT X) 1 = true := bI_n0 c11
    refine Wq.toX ?_
    first | refine x_aload_n d_SD_goal_24 rfl rfl ?_ | refine x_aloadN_n d_SD_goal_24 rfl rfl ?_ | refine x_aloadE_n d_SD_goal_24 rfl rfl ?_ | refine x_aloadO_n d_SD_goal_24 rfl rfl ?_
    refine x_getR d_SD_goal_25 f_SD_18 rfl (by assumption) (o2) ?_
    first | refine x_aload_n d_SD_goal_28 rfl rfl ?_ | refine x_aloadN_n d_SD_goal_28 rfl rfl ?_ | refine x_aloadE_n d_SD_goal_28 rfl rfl ?_ | refine x_aloadO_n d_SD_goal_28 rfl rfl ?_
    refine x_getR d_SD_goal_29 f_SD_14 rfl (by assumption) (o1) ?_
    refine x_callV1 d_SD_goal_32 k_Row_copy l_SD_135 v_Row_copy rfl s_Row_copy (by exact xg.1) RoomE.m (Nat.le_of_ble_eq_true rfl) (c_Row_copy xg xt (by omega) (fun τ1 r1 f1 => ?_))
    first | refine x_aload_n d_SD_goal_35 rfl rfl ?_ | refine x_aloadN_n d_SD_goal_35 rfl rfl ?_ | refine x_aloadE_n d_SD_goal_35 rfl rfl ?_ | refine x_aloadO_n d_SD_goal_35 rfl rfl ?_
    refine x_getR d_SD_goal_36 f_SD_14 rfl (by assumption) (by rw [f1.1]; exact o1) ?_
    refine x_callV0 d_SD_goal_39 k_Row_clear l_SD_91 v_Row_clear rfl s_Row_clear (by exact xt.1) RoomE.m (Nat.le_of_ble_eq_true rfl) (c_Row_clear (xt.fr f1 (by simp) (by simp)) (fun τ2 r2 f2 => ?_))
    first | refine x_aload_n d_SD_goal_42 rfl rfl ?_ | refine x_aloadN_n d_SD_goal_42 rfl rfl ?_ | refine x_aloadE_n d_SD_goal_42 rfl rfl ?_ | refine x_aloadO_n d_SD_goal_42 rfl rfl ?_
    refine x_getR d_SD_goal_43 f_SD_47 rfl (by assumption) (by rw [f2.1, f1.1]; exact o6) ?_
    refine x_callV0 d_SD_goal_46 k_Tree_clear l_SD_95 v_Tree_clear rfl s_Tree_clear (by exact xT.1) RoomE.m (Nat.le_of_ble_eq_true rfl) (c_Tree_clear (xT.P ((f1.P (T := fun a => a = 1 ∨ a = 3 ∨ a = 4) (by simp)).tr (f2.P (by simp))) (fun a ha hb => by unfold inT at ha; omega)) (fun τ3 T3 f3 => ?_))
    exact x_return d_SD_goal_49 rfl (hQ htm τ3 (by
      rw [tk24 xtl] at r1
      have h1 := hX.goal f1 r1 xtl
      have h2 := h1.text (f2.mono (by simp)) r2 (Nat.zero_le _)
      exact h2.tree (t131 f3) T3) (((f1.P (by simp [inCS])).tr (f2.P (by simp [inCS]))).tr (f3.P (by simp [inCS]))))
  · exact x_throw d_SD_goal_14 d_SD_goal_17 d_SD_goal_18 d_SD_goal_20 d_SD_goal_23 rfl thr_133 (hE (by rw [tk24 xtl] at c11; exact bI_0 c11))
