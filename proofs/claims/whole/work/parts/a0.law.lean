/-! the law's helpers, which catch -/
theorem kw_Law_function : LKW M_Law_function 4 [(0, 7, 10, 13), (0, 7, 14, 15)] := ⟨⟨tb3_in (i := 2) rfl, rfl⟩, ini_Law, ⟨by decide, by decide⟩, by decide +kernel, rfl, rfl, by decide⟩
theorem hf_Law_function_IAE : HF M_Law_function 4 [(0, 7, 10, 13), (0, 7, 14, 15)] "java/lang/IllegalArgumentException" 10 := Or.inl ⟨_, _, _, rfl, by decide, by decide, rfl, ⟨tb3_in (i := 3) rfl, rfl⟩, tb3_in (i := 11) rfl⟩
theorem hf_Law_function_ISE : HF M_Law_function 4 [(0, 7, 10, 13), (0, 7, 14, 15)] "java/lang/IllegalStateException" 14 := Or.inr ⟨_, _, _, _, _, rfl, by decide, by decide, by decide, by decide, rfl, ⟨tb3_in (i := 3) rfl, rfl⟩, ⟨tb3_in (i := 4) rfl, rfl⟩, by decide +kernel, tb3_in (i := 84) rfl⟩
theorem kw_Law_body : LKW M_Law_body 3 [(0, 6, 9, 15), (0, 6, 12, 13)] := ⟨⟨tb3_in (i := 104) rfl, rfl⟩, ini_Law, ⟨by decide, by decide⟩, by decide +kernel, rfl, rfl, by decide⟩
theorem hf_Law_body_ISE : HF M_Law_body 3 [(0, 6, 9, 15), (0, 6, 12, 13)] "java/lang/IllegalStateException" 9 := Or.inl ⟨_, _, _, rfl, by decide, by decide, rfl, ⟨tb3_in (i := 4) rfl, rfl⟩, tb3_in (i := 84) rfl⟩
theorem hf_Law_body_IAE : HF M_Law_body 3 [(0, 6, 9, 15), (0, 6, 12, 13)] "java/lang/IllegalArgumentException" 12 := Or.inr ⟨_, _, _, _, _, rfl, by decide, by decide, by decide, by decide, rfl, ⟨tb3_in (i := 4) rfl, rfl⟩, ⟨tb3_in (i := 3) rfl, rfl⟩, by decide +kernel, tb3_in (i := 11) rfl⟩
theorem kw_Law_goal : LKW M_Law_goal 1 [(0, 4, 7, 13)] := ⟨⟨tb3_in (i := 140) rfl, rfl⟩, ini_Law, ⟨by decide, by decide⟩, by decide +kernel, rfl, rfl, by decide⟩
theorem hf_Law_goal_IAE : HF M_Law_goal 1 [(0, 4, 7, 13)] "java/lang/IllegalArgumentException" 7 := Or.inl ⟨_, _, _, rfl, by decide, by decide, rfl, ⟨tb3_in (i := 3) rfl, rfl⟩, tb3_in (i := 11) rfl⟩
theorem kw_Law_drive : LKW M_Law_drive 2 [(0, 8, 11, 15), (0, 8, 14, 28)] := ⟨⟨tb3_in (i := 149) rfl, rfl⟩, ini_Law, ⟨by decide, by decide⟩, by decide +kernel, rfl, rfl, by decide⟩
theorem hf_Law_drive_ISE : HF M_Law_drive 3 [(0, 8, 11, 15), (0, 8, 14, 28)] "java/lang/IllegalStateException" 11 := Or.inl ⟨_, _, _, rfl, by decide, by decide, rfl, ⟨tb3_in (i := 4) rfl, rfl⟩, tb3_in (i := 84) rfl⟩
theorem hf_Law_drive_UOE : HF M_Law_drive 3 [(0, 8, 11, 15), (0, 8, 14, 28)] "java/lang/UnsupportedOperationException" 14 := Or.inr ⟨_, _, _, _, _, rfl, by decide, by decide, by decide, by decide, rfl, ⟨tb3_in (i := 4) rfl, rfl⟩, ⟨tb3_in (i := 150) rfl, rfl⟩, by decide +kernel, tb4_in (i := 212) rfl⟩
theorem kw_Law_run : LKW M_Law_run 4 [(0, 10, 13, 13), (0, 10, 17, 15)] := ⟨⟨tb4_in (i := 228) rfl, rfl⟩, ini_Law, ⟨by decide, by decide⟩, by decide +kernel, rfl, rfl, by decide⟩
theorem hf_Law_run_IAE : HF M_Law_run 5 [(0, 10, 13, 13), (0, 10, 17, 15)] "java/lang/IllegalArgumentException" 13 := Or.inl ⟨_, _, _, rfl, by decide, by decide, rfl, ⟨tb3_in (i := 3) rfl, rfl⟩, tb3_in (i := 11) rfl⟩
theorem hf_Law_run_ISE : HF M_Law_run 5 [(0, 10, 13, 13), (0, 10, 17, 15)] "java/lang/IllegalStateException" 17 := Or.inr ⟨_, _, _, _, _, rfl, by decide, by decide, by decide, by decide, rfl, ⟨tb3_in (i := 3) rfl, rfl⟩, ⟨tb3_in (i := 4) rfl, rfl⟩, by decide +kernel, tb3_in (i := 84) rfl⟩
set_option maxRecDepth 10000 in
set_option maxHeartbeats 1000000 in
theorem c_Law_function {G : Ctx} {d : Nat} {Γ : List Sh} {σ : Mem} {Q : Option Value → List Sh → Mem → Prop} {K : Nat} {X : CS} {f n : Int32} {b : Bool} (hX : isCS Γ σ K X) (hE1 : fnBad f n = true → Q (some (.int 1)) (Γ ++ [(9, 0)]) (zr σ Γ.length)) (hE2 : fnBad f n = false → dcl (kP X) f = true → Q (some (.int 2)) (Γ ++ [(9, 0)]) (zr σ Γ.length)) (hQ : fnBad f n = false → dcl (kP X) f = false → ∀ σ', isCS Γ σ' K (csFn X f n b) → FrP inCS σ σ' → Q (some (.int 0)) Γ σ') : Ct G M_Law_function (d + 7) 1 6 [rf G 0, .int f, .int n, .int (bI b)] Γ σ Q := by
  refine Ct.ofW rfl kw_Law_function (lv := [some (rf G 0), some (.int f), some (.int n), some (.int (bI b)), none]) (ll := []) (EN.cat (n := 1) ⟨rfl, rfl, rfl, rfl, trivial⟩ (Nat.le_of_ble_eq_true rfl)) ?_
  first | refine x_aload_n d_Law_function_0 rfl rfl ?_ | refine x_aloadN_n d_Law_function_0 rfl rfl ?_ | refine x_aloadE_n d_Law_function_0 rfl rfl ?_ | refine x_aloadO_n d_Law_function_0 rfl rfl ?_
  refine x_iload_n d_Law_function_1 rfl rfl ?_
  refine x_iload_n d_Law_function_2 rfl rfl ?_
  refine x_iload_n d_Law_function_3 rfl rfl ?_
  refine x_callVXg (as := [.int f, .int n, .int (bI b)]) (bc := 0) (bs := 0) (mc := 1) (ms := 6) d_Law_function_4 k_SD_function l_Law_7 v_SD_function rfl s_SD_function (by exact hX.1.1) rfl RoomE.m (Nat.le_of_ble_eq_true rfl) rfl (c_SD_function hX (fun g1 => ⟨10, hf_Law_function_IAE, fun k' => ?_⟩) (fun g1 g2 => ⟨14, hf_Law_function_ISE, fun k' => ?_⟩) (fun g1 g2 σ1 g3 g4 => ?_))
  · first | refine x_astore d_Law_function_10 rfl ?_ | refine x_astoreN d_Law_function_10 rfl ?_ | refine x_astoreE d_Law_function_10 rfl ?_ | refine x_astoreO d_Law_function_10 rfl ?_
    refine x_iconst (v := 1) d_Law_function_12 (by decide) ?_
    exact x_ireturn d_Law_function_13 rfl (by first | rfl | decide) (hE1 g1)
  · first | refine x_astore d_Law_function_14 rfl ?_ | refine x_astoreN d_Law_function_14 rfl ?_ | refine x_astoreE d_Law_function_14 rfl ?_ | refine x_astoreO d_Law_function_14 rfl ?_
    refine x_iconst (v := 2) d_Law_function_16 (by decide) ?_
    exact x_ireturn d_Law_function_17 rfl (by first | rfl | decide) (hE2 g1 g2)
  · refine x_goto (tgt := 18) d_Law_function_7 (by decide) ?_
    refine x_iconst (v := 0) d_Law_function_18 (by decide) ?_
    exact x_ireturn d_Law_function_19 rfl (by first | rfl | decide) (hQ g1 g2 _ g3 g4)
set_option maxRecDepth 10000 in
set_option maxHeartbeats 1000000 in
theorem c_Law_body {G : Ctx} {d : Nat} {Γ : List Sh} {σ : Mem} {Q : Option Value → List Sh → Mem → Prop} {K : Nat} {X : CS} {f x : Int32} (hX : isCS Γ σ K X) (hE1 : dcl (kP X) f = false → Q (some (.int 1)) (Γ ++ [(9, 0)]) (zr σ Γ.length)) (hE2 : dcl (kP X) f = true → mhv (kP X) (kC X) f x (kT X) = false → Q (some (.int 2)) (Γ ++ [(9, 0)]) (zr σ Γ.length)) (hQ : dcl (kP X) f = true → mhv (kP X) (kC X) f x (kT X) = true → ∀ σ', isCS Γ σ' K (csBd X f x) → FrP inCS σ σ' → Q (some (.int 0)) Γ σ') : Ct G M_Law_body (d + 7) 1 6 [rf G 0, .int f, .int x] Γ σ Q := by
  refine Ct.ofW rfl kw_Law_body (lv := [some (rf G 0), some (.int f), some (.int x), none]) (ll := []) (EN.cat (n := 1) ⟨rfl, rfl, rfl, trivial⟩ (Nat.le_of_ble_eq_true rfl)) ?_
  first | refine x_aload_n d_Law_body_0 rfl rfl ?_ | refine x_aloadN_n d_Law_body_0 rfl rfl ?_ | refine x_aloadE_n d_Law_body_0 rfl rfl ?_ | refine x_aloadO_n d_Law_body_0 rfl rfl ?_
  refine x_iload_n d_Law_body_1 rfl rfl ?_
  refine x_iload_n d_Law_body_2 rfl rfl ?_
  refine x_callVXg (as := [.int f, .int x]) (bc := 0) (bs := 0) (mc := 1) (ms := 6) d_Law_body_3 k_SD_body l_Law_17 v_SD_body rfl s_SD_body (by exact hX.1.1) rfl RoomE.m (Nat.le_of_ble_eq_true rfl) rfl (c_SD_body hX (fun g1 => ⟨9, hf_Law_body_ISE, fun k' => ?_⟩) (fun g1 g2 => ⟨12, hf_Law_body_IAE, fun k' => ?_⟩) (fun g1 g2 σ1 g3 g4 => ?_))
  · first | refine x_astore_n d_Law_body_9 rfl rfl ?_ | refine x_astoreN_n d_Law_body_9 rfl rfl ?_ | refine x_astoreE_n d_Law_body_9 rfl rfl ?_ | refine x_astoreO_n d_Law_body_9 rfl rfl ?_
    refine x_iconst (v := 1) d_Law_body_10 (by decide) ?_
    exact x_ireturn d_Law_body_11 rfl (by first | rfl | decide) (hE1 g1)
  · first | refine x_astore_n d_Law_body_12 rfl rfl ?_ | refine x_astoreN_n d_Law_body_12 rfl rfl ?_ | refine x_astoreE_n d_Law_body_12 rfl rfl ?_ | refine x_astoreO_n d_Law_body_12 rfl rfl ?_
    refine x_iconst (v := 2) d_Law_body_13 (by decide) ?_
    exact x_ireturn d_Law_body_14 rfl (by first | rfl | decide) (hE2 g1 g2)
  · refine x_goto (tgt := 15) d_Law_body_6 (by decide) ?_
    refine x_iconst (v := 0) d_Law_body_15 (by decide) ?_
    exact x_ireturn d_Law_body_16 rfl (by first | rfl | decide) (hQ g1 g2 _ g3 g4)
set_option maxRecDepth 10000 in
set_option maxHeartbeats 1000000 in
theorem c_Law_goal {G : Ctx} {d : Nat} {Γ : List Sh} {σ : Mem} {Q : Option Value → List Sh → Mem → Prop} {K : Nat} {X : CS} (hX : isCS Γ σ K X) (hE1 : trm (sgP (kP X)) (kT X) 1 = false → Q (some (.int 1)) (Γ ++ [(9, 0)]) (zr σ Γ.length)) (hQ : trm (sgP (kP X)) (kT X) 1 = true → ∀ σ', isCS Γ σ' K (csGl X) → FrP inCS σ σ' → Q (some (.int 0)) Γ σ') : Ct G M_Law_goal (d + 7) 1 6 [rf G 0] Γ σ Q := by
  refine Ct.ofW rfl kw_Law_goal (lv := [some (rf G 0), none]) (ll := []) (EN.cat (n := 1) ⟨rfl, trivial⟩ (Nat.le_of_ble_eq_true rfl)) ?_
  first | refine x_aload_n d_Law_goal_0 rfl rfl ?_ | refine x_aloadN_n d_Law_goal_0 rfl rfl ?_ | refine x_aloadE_n d_Law_goal_0 rfl rfl ?_ | refine x_aloadO_n d_Law_goal_0 rfl rfl ?_
  refine x_callVXg (as := []) (bc := 0) (bs := 0) (mc := 1) (ms := 6) d_Law_goal_1 k_SD_goal l_Law_21 v_SD_goal rfl s_SD_goal (by exact hX.1.1) rfl RoomE.m (Nat.le_of_ble_eq_true rfl) rfl (c_SD_goal hX (fun g1 => ⟨7, hf_Law_goal_IAE, fun k' => ?_⟩) (fun g1 σ1 g3 g4 => ?_))
  · first | refine x_astore_n d_Law_goal_7 rfl rfl ?_ | refine x_astoreN_n d_Law_goal_7 rfl rfl ?_ | refine x_astoreE_n d_Law_goal_7 rfl rfl ?_ | refine x_astoreO_n d_Law_goal_7 rfl rfl ?_
    refine x_iconst (v := 1) d_Law_goal_8 (by decide) ?_
    exact x_ireturn d_Law_goal_9 rfl (by first | rfl | decide) (hE1 g1)
  · refine x_goto (tgt := 10) d_Law_goal_4 (by decide) ?_
    refine x_iconst (v := 0) d_Law_goal_10 (by decide) ?_
    exact x_ireturn d_Law_goal_11 rfl (by first | rfl | decide) (hQ g1 _ g3 g4)
set_option maxRecDepth 10000 in
set_option maxHeartbeats 1000000 in
theorem c_Law_drive {G : Ctx} {d : Nat} {Γ : List Sh} {σ : Mem} {Q : Option Value → List Sh → Mem → Prop} {K : Nat} {X : CS} (hX : isCS Γ σ K X) (ho : Γ[426]? = some (3, 1)) (hW : csW X) (hK : K + 700 < 1000000000) (hE0 : kG X = [] → Q (some (.int 1)) (Γ ++ [(9, 0)]) (zr σ Γ.length)) (hE1 : kG X ≠ [] → ∀ S σ', tG (dT X S) = true → isCS Γ σ' (K + 700) (kTr X (tClr (dT X S))) → FrP inCS σ σ' → Q (some (.int 2)) (Γ ++ [(9, 0)]) (zr σ' Γ.length)) (hE2 : kG X ≠ [] → ∀ S σ', tG (dT X S) = false → (dW X S).1.2 = false → isCS Γ σ' (K + 700) (kSg X (dW X S).2.1 (dW X S).2.2 (tClr (dW X S).1.1)) → FrP inCS σ σ' → Q (some (.int 2)) (Γ ++ [(9, 0)]) (zr σ' Γ.length)) (hQ : kG X ≠ [] → ∀ S σ', tG (dT X S) = false → (dW X S).1.2 = true → isCS Γ σ' (K + 700) (kSg X (dW X S).2.1 (dW X S).2.2 (dW X S).1.1) → FrP inCS σ σ' → Q (some (.int 0)) Γ (wL σ' 426 0 (nI (tN (dW X S).1.1)).toInt64)) : Ct G M_Law_drive (d + 8) 1 6 [rf G 0, rf G 426] Γ σ Q := by
  refine Ct.ofW rfl kw_Law_drive (lv := [some (rf G 0), some (rf G 426), none]) (ll := []) (EN.cat (n := 1) ⟨rfl, rfl, trivial⟩ (Nat.le_of_ble_eq_true rfl)) ?_
  first | refine x_aload_n d_Law_drive_0 rfl rfl ?_ | refine x_aloadN_n d_Law_drive_0 rfl rfl ?_ | refine x_aloadE_n d_Law_drive_0 rfl rfl ?_ | refine x_aloadO_n d_Law_drive_0 rfl rfl ?_
  refine x_iconst (v := 0) d_Law_drive_1 (by decide) ?_
  first | refine x_aload_n d_Law_drive_2 rfl rfl ?_ | refine x_aloadN_n d_Law_drive_2 rfl rfl ?_ | refine x_aloadE_n d_Law_drive_2 rfl rfl ?_ | refine x_aloadO_n d_Law_drive_2 rfl rfl ?_
  refine x_callVXg (as := []) (bc := 0) (bs := 0) (mc := 1) (ms := 6) d_Law_drive_3 k_SD_drive l_Law_24 v_SD_drive rfl s_SD_drive (by exact hX.1.1) rfl RoomE.m (Nat.le_of_ble_eq_true rfl) rfl (c_SD_drive (J := DJ (kP X)) hX hW.2.1.ok hK (fun g1 => ⟨11, hf_Law_drive_ISE, fun k' => ?_⟩) (fun hne S => DJ_0 hW.2.2.2.1.2 hne) (fun n S T h _ hn => DJ_step hW.2.1 hW.2.2.1 n S T h hn) (fun n S T h => DJ_use h) (fun g0 S σ1 g1 g2 g3 => ⟨14, hf_Law_drive_UOE, fun k' => ?_⟩) (fun g0 S σ1 g1 g2 g3 g4 => ⟨14, hf_Law_drive_UOE, fun k' => ?_⟩) (fun g0 S σ1 g1 g2 g3 g4 => ?_))
  · first | refine x_astore_n d_Law_drive_11 rfl rfl ?_ | refine x_astoreN_n d_Law_drive_11 rfl rfl ?_ | refine x_astoreE_n d_Law_drive_11 rfl rfl ?_ | refine x_astoreO_n d_Law_drive_11 rfl rfl ?_
    refine x_iconst (v := 1) d_Law_drive_12 (by decide) ?_
    exact x_ireturn d_Law_drive_13 rfl (by first | rfl | decide) (hE0 g1)
  · first | refine x_astore_n d_Law_drive_14 rfl rfl ?_ | refine x_astoreN_n d_Law_drive_14 rfl rfl ?_ | refine x_astoreE_n d_Law_drive_14 rfl rfl ?_ | refine x_astoreO_n d_Law_drive_14 rfl rfl ?_
    refine x_iconst (v := 2) d_Law_drive_15 (by decide) ?_
    exact x_ireturn d_Law_drive_16 rfl (by first | rfl | decide) (hE1 g0 S _ g1 g2 g3)
  · first | refine x_astore_n d_Law_drive_14 rfl rfl ?_ | refine x_astoreN_n d_Law_drive_14 rfl rfl ?_ | refine x_astoreE_n d_Law_drive_14 rfl rfl ?_ | refine x_astoreO_n d_Law_drive_14 rfl rfl ?_
    refine x_iconst (v := 2) d_Law_drive_15 (by decide) ?_
    exact x_ireturn d_Law_drive_16 rfl (by first | rfl | decide) (hE2 g0 S _ g1 g2 g3 g4)
  · refine x_i2l d_Law_drive_6 ?_
    refine x_last d_Law_drive_7 (by exact ho) (show vp_in (nI 0) 1 from vp_in_nI (by decide) (by decide)) ?_
    refine x_goto (tgt := 17) d_Law_drive_8 (by decide) ?_
    refine x_iconst (v := 0) d_Law_drive_17 (by decide) ?_
    exact x_ireturn d_Law_drive_18 rfl (by first | rfl | decide) (hQ g0 S _ g1 g2 g3 g4)
set_option maxRecDepth 10000 in
set_option maxHeartbeats 1000000 in
theorem c_Law_run_f {G : Ctx} {d : Nat} {Γ : List Sh} {σ : Mem} {Q : Option Value → List Sh → Mem → Prop} {K : Nat} {X : CS} {f : Int32} (hX : isCS Γ σ K X) (ho : Γ[426]? = some (3, 1)) (hW : csW X) (hK : K + 1100 < 1000000000) (hE1 : fuBad f = true → Q (some (.int 1)) (Γ ++ [(9, 0)]) (zr σ Γ.length)) (hE2 : fuBad f = false → rnBad X false = true → Q (some (.int 2)) (Γ ++ [(9, 0)]) (zr σ Γ.length)) (hQ : ∀ k, k ≤ 500 → f = nI k → fuBad f = false → rnBad X false = false → ∀ σ', isCS Γ σ' (K + 1100) (csRn X (runS X k)) → FrP inCS σ σ' → Q (some (.int 0)) Γ (wL σ' 426 0 ((runS X k).1).toInt64)) : Ct G M_Law_run (d + 7) 1 6 [rf G 0, .int (bI false), .int f, rf G 426] Γ σ Q := by
  refine Ct.ofW rfl kw_Law_run (lv := [some (rf G 0), some (.int (bI false)), some (.int f), some (rf G 426), none]) (ll := []) (EN.cat (n := 1) ⟨rfl, rfl, rfl, rfl, trivial⟩ (Nat.le_of_ble_eq_true rfl)) ?_
  first | refine x_aload_n d_Law_run_0 rfl rfl ?_ | refine x_aloadN_n d_Law_run_0 rfl rfl ?_ | refine x_aloadE_n d_Law_run_0 rfl rfl ?_ | refine x_aloadO_n d_Law_run_0 rfl rfl ?_
  refine x_iconst (v := 0) d_Law_run_1 (by decide) ?_
  first | refine x_aload_n d_Law_run_2 rfl rfl ?_ | refine x_aloadN_n d_Law_run_2 rfl rfl ?_ | refine x_aloadE_n d_Law_run_2 rfl rfl ?_ | refine x_aloadO_n d_Law_run_2 rfl rfl ?_
  refine x_iload_n d_Law_run_3 rfl rfl ?_
  refine x_iload_n d_Law_run_4 rfl rfl ?_
  refine x_callVXg (as := [.int (bI false), .int f]) (bc := 0) (bs := 0) (mc := 1) (ms := 6) d_Law_run_5 k_SD_run l_Law_30 v_SD_run rfl s_SD_run (by exact hX.1.1) rfl RoomE.m (Nat.le_of_ble_eq_true rfl) rfl (c_SD_run_f hX hW.2.1.ok hK (fun g1 => ⟨13, hf_Law_run_IAE, fun k' => ?_⟩) (fun g1 g2 => ⟨17, hf_Law_run_ISE, fun k' => ?_⟩) (fun k g0 ge g1 g2 σ1 g3 g4 => ?_))
  · first | refine x_astore d_Law_run_13 rfl ?_ | refine x_astoreN d_Law_run_13 rfl ?_ | refine x_astoreE d_Law_run_13 rfl ?_ | refine x_astoreO d_Law_run_13 rfl ?_
    refine x_iconst (v := 1) d_Law_run_15 (by decide) ?_
    exact x_ireturn d_Law_run_16 rfl (by first | rfl | decide) (hE1 g1)
  · first | refine x_astore d_Law_run_17 rfl ?_ | refine x_astoreN d_Law_run_17 rfl ?_ | refine x_astoreE d_Law_run_17 rfl ?_ | refine x_astoreO d_Law_run_17 rfl ?_
    refine x_iconst (v := 2) d_Law_run_19 (by decide) ?_
    exact x_ireturn d_Law_run_20 rfl (by first | rfl | decide) (hE2 g1 g2)
  · refine x_i2l d_Law_run_8 ?_
    refine x_last d_Law_run_9 (by exact ho) (show vp_in (nI 0) 1 from vp_in_nI (by decide) (by decide)) ?_
    refine x_goto (tgt := 21) d_Law_run_10 (by decide) ?_
    refine x_iconst (v := 0) d_Law_run_21 (by decide) ?_
    exact x_ireturn d_Law_run_22 rfl (by first | rfl | decide) (hQ k g0 ge g1 g2 _ g3 g4)
set_option maxRecDepth 10000 in
set_option maxHeartbeats 1000000 in
theorem c_Law_run_t {G : Ctx} {d : Nat} {Γ : List Sh} {σ : Mem} {Q : Option Value → List Sh → Mem → Prop} {K : Nat} {X : CS} {f : Int32} (hX : isCS Γ σ K X) (ho : Γ[426]? = some (3, 1)) (hW : csW X) (hK : K + 1100 < 1000000000) (hB : BW (kR X)) (hE1 : fuBad f = true → Q (some (.int 1)) (Γ ++ [(9, 0)]) (zr σ Γ.length)) (hE2 : fuBad f = false → rnBad X true = true → Q (some (.int 2)) (Γ ++ [(9, 0)]) (zr σ Γ.length)) (hQ : ∀ k, k ≤ 500 → f = nI k → fuBad f = false → rnBad X true = false → ∀ σ', isCS Γ σ' (K + 1100) (csRn X (runT X k)) → FrP inCS σ σ' → Q (some (.int 0)) Γ (wL σ' 426 0 ((runT X k).1).toInt64)) : Ct G M_Law_run (d + 7) 1 6 [rf G 0, .int (bI true), .int f, rf G 426] Γ σ Q := by
  refine Ct.ofW rfl kw_Law_run (lv := [some (rf G 0), some (.int (bI true)), some (.int f), some (rf G 426), none]) (ll := []) (EN.cat (n := 1) ⟨rfl, rfl, rfl, rfl, trivial⟩ (Nat.le_of_ble_eq_true rfl)) ?_
  first | refine x_aload_n d_Law_run_0 rfl rfl ?_ | refine x_aloadN_n d_Law_run_0 rfl rfl ?_ | refine x_aloadE_n d_Law_run_0 rfl rfl ?_ | refine x_aloadO_n d_Law_run_0 rfl rfl ?_
  refine x_iconst (v := 0) d_Law_run_1 (by decide) ?_
  first | refine x_aload_n d_Law_run_2 rfl rfl ?_ | refine x_aloadN_n d_Law_run_2 rfl rfl ?_ | refine x_aloadE_n d_Law_run_2 rfl rfl ?_ | refine x_aloadO_n d_Law_run_2 rfl rfl ?_
  refine x_iload_n d_Law_run_3 rfl rfl ?_
  refine x_iload_n d_Law_run_4 rfl rfl ?_
  refine x_callVXg (as := [.int (bI true), .int f]) (bc := 0) (bs := 0) (mc := 1) (ms := 6) d_Law_run_5 k_SD_run l_Law_30 v_SD_run rfl s_SD_run (by exact hX.1.1) rfl RoomE.m (Nat.le_of_ble_eq_true rfl) rfl (c_SD_run_t hX hW.2.1.ok hK hB (fun g1 => ⟨13, hf_Law_run_IAE, fun k' => ?_⟩) (fun g1 g2 => ⟨17, hf_Law_run_ISE, fun k' => ?_⟩) (fun k g0 ge g1 g2 σ1 g3 g4 => ?_))
  · first | refine x_astore d_Law_run_13 rfl ?_ | refine x_astoreN d_Law_run_13 rfl ?_ | refine x_astoreE d_Law_run_13 rfl ?_ | refine x_astoreO d_Law_run_13 rfl ?_
    refine x_iconst (v := 1) d_Law_run_15 (by decide) ?_
    exact x_ireturn d_Law_run_16 rfl (by first | rfl | decide) (hE1 g1)
  · first | refine x_astore d_Law_run_17 rfl ?_ | refine x_astoreN d_Law_run_17 rfl ?_ | refine x_astoreE d_Law_run_17 rfl ?_ | refine x_astoreO d_Law_run_17 rfl ?_
    refine x_iconst (v := 2) d_Law_run_19 (by decide) ?_
    exact x_ireturn d_Law_run_20 rfl (by first | rfl | decide) (hE2 g1 g2)
  · refine x_i2l d_Law_run_8 ?_
    refine x_last d_Law_run_9 (by exact ho) (show vp_in (nI 0) 1 from vp_in_nI (by decide) (by decide)) ?_
    refine x_goto (tgt := 21) d_Law_run_10 (by decide) ?_
    refine x_iconst (v := 0) d_Law_run_21 (by decide) ?_
    exact x_ireturn d_Law_run_22 rfl (by first | rfl | decide) (hQ k g0 ge g1 g2 _ g3 g4)
