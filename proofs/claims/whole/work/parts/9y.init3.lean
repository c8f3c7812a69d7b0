/-! SuperDriver.<init> -/
theorem x_callINg {G : Ctx} {M M' : Mth} {E : Ev} {d mc ms bc bs pc idx n k : Nat} {lv : List (Option Value)} {ll : List (Nat × Int64)} {st as : List Value} {Γ : List Sh} {σ : Mem} {host : String} (hd : decode (mcd M) pc = .ok (.invokespecial idx, 3)) (hL : LK M' n) (hr : mrt M' = none) (hl : Cond.methodLinkNest (my M).cls idx (my M') host ∈ lw_tbl) (hi : gd (.instanceMethod (my M'))) (hnm : (my M').name = "<init>") (hn : as.length = n) (hR : RoomE E d) (hcat : (st.map fun v => v.category).sum ≤ 8)
    (hC : Ct G M' d mc ms (rf G k :: as) Γ σ (fun r Γ' σ' => Wq G M E bc bs (pc + 3) lv ll (r.toList ++ st) Γ' σ')) : Wq G M E (bc + mc) (bs + ms) pc lv ll (as.reverse ++ rf G k :: st) Γ σ := by
  intro p e s m args below meth c C H locs cells slots ls hV hS h1 h2 hlv
  refine go_run C hS h1 h2 hlv (va_runIN (Ts := []) (n := n) (b := cB G + k) (As := as) (rest := st) (maxL := mL M') (bytes := mcd M') ⟨C.exec, C.code, C.maxL, C.own, fun w h => by cases h⟩ (hC C.ok) ⟨by rw [← hr]; exact cn_of C hL hR hl, hnm, C.g hi⟩ ⟨Pcc.blind, pre_of C hV hS⟩ rfl hn hlv.1.1 rfl (lv_room hcat) hd ⟨?_, ?_⟩) (fun _ _ _ h => h)
  · have := hR.2.2.1; omega
  · have := hR.2.2.2; omega
def X0 : CS := ([], [], fun _ => [], pt0, fun _ => false, fun _ => [], T0, [], -1, 0)
set_option maxRecDepth 10000 in
set_option maxHeartbeats 1000000 in
theorem c_SD_init {G : Ctx} {d : Nat} {Γ : List Sh} {σ : Mem} {Q : Option Value → List Sh → Mem → Prop} (hT : Γ[0]? = some (0, 0)) (hL : Γ.length = 1) (hQ : ∀ Γ' σ', Nw Γ σ (Is 0) 390 Γ' σ' → isCS Γ' σ' 0 X0 → Q none Γ' σ') : Ct G M_SD_init (d + 4) 390 11414 [rf G 0] Γ σ Q := by
  refine Ct.of (lv := [some (rf G 0), none]) (ll := []) rfl rfl (EN.cat (n := 1) ⟨rfl, trivial⟩ (Nat.le_of_ble_eq_true rfl)) ?_
  have hend : ∀ (Γ1 : List Sh) (σ1 : Mem), Γ1.length = 6 + 2 * 8 → Γ1[0]? = some (0, 0) → Γ1[5]? = some (4, 8) → (σ1.2.1 0 2 = some 5 ∧ σ1.2.1 0 0 = some 1 ∧ σ1.2.1 0 1 = some 3 ∧ isRow Γ1 σ1 1 24 [] ∧ isRow Γ1 σ1 3 24 []) → (∀ u, u < 8 → σ1.2.1 5 u = some (6 + 2 * u) ∧ isRow Γ1 σ1 (6 + 2 * u) 24 []) → Nw Γ σ (Is 0) (5 + 2 * 8) Γ1 σ1 → Wq G M_SD_init (Em G (d + 4) 390 11414 Q) 369 11136 68 [some (rf G 0), some (.int (nI 8))] [] [] Γ1 σ1 := by
    intro Γ1 σ1 hL1 hT ha hf hr W
    have hL1 : Γ1.length = 22 := hL1
    have hL0 := hL
    have hL := hL1
    obtain ⟨f2, f0, f1, q1, q3⟩ := hf
    have qi : isInp Γ1 σ1 (fun _ => []) := ⟨ha, fun v hv => ⟨(hr v hv).1, (hr v hv).2, by show 0 ≤ 24; omega⟩⟩
    refine Wq.bud (bc := 368 + 1) (bs := 11131 + 5) (by omega) (by omega) ?_
    refine x_newK (k := 22) (bc := 368) (bs := 11131) (by omega) d_SD_init_68 kc_Substitution cl_SD_25 ins_Substitution ini_Substitution (by decide +kernel) EvOK.m (fun Γb1 σb1 wb1 awb1 zwb1 => ?_)
    have q1 := q1.nw wb1 (by first | exact no0 | exact Is.no (by omega)) (by first | exact no0 | exact Is.no (by omega))
    have q3 := q3.nw wb1 (by first | exact no0 | exact Is.no (by omega)) (by first | exact no0 | exact Is.no (by omega))
    have qi := qi.nw wb1 (fun a h1 h2 => by first | exact no0 | exact Is.no (by omega))
    have f0 := wb1.r (by omega) (by first | exact no0 | exact Is.no (by omega)) f0
    have f1 := wb1.r (by omega) (by first | exact no0 | exact Is.no (by omega)) f1
    have f2 := wb1.r (by omega) (by first | exact no0 | exact Is.no (by omega)) f2
    have hL := wb1.len hL
    have hT := wb1.sh hT
    have W := W.tr wb1.any
    refine x_dup d_SD_init_71 rfl ?_
    refine Wq.bud (bc := 364 + 4) (bs := 10731 + 400) (by omega) (by omega) ?_
    refine x_callINg (as := []) (mc := 4) (ms := 400) (bc := 364) (bs := 10731) d_SD_init_72 k_Substitution_init rfl ln_SD_27 v_Substitution_init rfl rfl RoomE.m (Nat.le_of_ble_eq_true rfl) (c_Substitution_init awb1 hL (fun Γb2 σb2 wb2 pwb2 => ?_))
    have q1 := q1.nw wb2 (by first | exact no0 | exact Is.no (by omega)) (by first | exact no0 | exact Is.no (by omega))
    have q3 := q3.nw wb2 (by first | exact no0 | exact Is.no (by omega)) (by first | exact no0 | exact Is.no (by omega))
    have qi := qi.nw wb2 (fun a h1 h2 => by first | exact no0 | exact Is.no (by omega))
    have awb1 := wb2.sh awb1
    have f0 := wb2.r (by omega) (by first | exact no0 | exact Is.no (by omega)) f0
    have f1 := wb2.r (by omega) (by first | exact no0 | exact Is.no (by omega)) f1
    have f2 := wb2.r (by omega) (by first | exact no0 | exact Is.no (by omega)) f2
    have hL := wb2.len hL
    have hT := wb2.sh hT
    have W := W.lateN wb2 (by omega)
    first | refine x_astore_n d_SD_init_75 rfl rfl ?_ | refine x_astoreN_n d_SD_init_75 rfl rfl ?_ | refine x_astoreE_n d_SD_init_75 rfl rfl ?_ | refine x_astoreO_n d_SD_init_75 rfl rfl ?_
    first | refine x_aload_n d_SD_init_76 rfl rfl ?_ | refine x_aloadN_n d_SD_init_76 rfl rfl ?_ | refine x_aloadE_n d_SD_init_76 rfl rfl ?_ | refine x_aloadO_n d_SD_init_76 rfl rfl ?_
    refine Wq.bud (bc := 363 + 1) (bs := 10726 + 5) (by omega) (by omega) ?_
    refine x_newK (k := 27) (bc := 363) (bs := 10726) (by omega) d_SD_init_77 kc_Signs cl_SD_28 ins_Signs ini_Signs (by decide +kernel) EvOK.m (fun Γb3 σb3 wb3 awb3 zwb3 => ?_)
    have q1 := q1.nw wb3 (by first | exact no0 | exact Is.no (by omega)) (by first | exact no0 | exact Is.no (by omega))
    have q3 := q3.nw wb3 (by first | exact no0 | exact Is.no (by omega)) (by first | exact no0 | exact Is.no (by omega))
    have qi := qi.nw wb3 (fun a h1 h2 => by first | exact no0 | exact Is.no (by omega))
    have awb1 := wb3.sh awb1
    have pwb2 := pwb2.nw wb3 (fun a h1 h2 => by first | exact no0 | exact Is.no (by omega))
    have f0 := wb3.r (by omega) (by first | exact no0 | exact Is.no (by omega)) f0
    have f1 := wb3.r (by omega) (by first | exact no0 | exact Is.no (by omega)) f1
    have f2 := wb3.r (by omega) (by first | exact no0 | exact Is.no (by omega)) f2
    have hL := wb3.len hL
    have hT := wb3.sh hT
    have W := W.tr wb3.any
    refine x_dup d_SD_init_80 rfl ?_
    refine Wq.bud (bc := 358 + 5) (bs := 9804 + 922) (by omega) (by omega) ?_
    refine x_callI0 (mc := 5) (ms := 922) (bc := 358) (bs := 9804) d_SD_init_81 k_Signs_init rfl l_SD_30 v_Signs_init rfl RoomE.m (Nat.le_of_ble_eq_true rfl) (c_Signs_init awb3 hL (fun Γb4 σb4 wb4 pwb4 => ?_))
    have q1 := q1.nw wb4 (by first | exact no0 | exact Is.no (by omega)) (by first | exact no0 | exact Is.no (by omega))
    have q3 := q3.nw wb4 (by first | exact no0 | exact Is.no (by omega)) (by first | exact no0 | exact Is.no (by omega))
    have qi := qi.nw wb4 (fun a h1 h2 => by first | exact no0 | exact Is.no (by omega))
    have awb1 := wb4.sh awb1
    have pwb2 := pwb2.nw wb4 (fun a h1 h2 => by first | exact no0 | exact Is.no (by omega))
    have awb3 := wb4.sh awb3
    have f0 := wb4.r (by omega) (by first | exact no0 | exact Is.no (by omega)) f0
    have f1 := wb4.r (by omega) (by first | exact no0 | exact Is.no (by omega)) f1
    have f2 := wb4.r (by omega) (by first | exact no0 | exact Is.no (by omega)) f2
    have hL := wb4.len hL
    have hT := wb4.sh hT
    have W := W.lateN wb4 (by omega)
    first | refine x_putR d_SD_init_84 w_SD_init_31 rfl (by assumption) ?_ | refine x_putN d_SD_init_84 w_SD_init_31 rfl (by assumption) ?_ | refine x_putQ d_SD_init_84 w_SD_init_31 rfl (by assumption) ?_
    generalize ewb5 : wR σb4 0 3 (some 27) = σb5
    have wb5 : Nw Γb4 σb4 (Is 0) 0 Γb4 σb5 := by rw [← ewb5]; exact Nw.wR
    have q1 := q1.nw wb5 (by first | exact no0 | exact Is.no (by omega)) (by first | exact no0 | exact Is.no (by omega))
    have q3 := q3.nw wb5 (by first | exact no0 | exact Is.no (by omega)) (by first | exact no0 | exact Is.no (by omega))
    have qi := qi.nw wb5 (fun a h1 h2 => by first | exact no0 | exact Is.no (by omega))
    have awb1 := wb5.sh awb1
    have pwb2 := pwb2.nw wb5 (fun a h1 h2 => by first | exact no0 | exact Is.no (by omega))
    have awb3 := wb5.sh awb3
    have pwb4 := pwb4.nw wb5 (fun a h1 h2 => by first | exact no0 | exact Is.no (by omega))
    have f0 : σb5.2.1 0 0 = some 1 := by rw [← ewb5, wR_j (by decide)]; exact f0
    have f1 : σb5.2.1 0 1 = some 3 := by rw [← ewb5, wR_j (by decide)]; exact f1
    have f2 : σb5.2.1 0 2 = some 5 := by rw [← ewb5, wR_j (by decide)]; exact f2
    have hL := wb5.len hL
    have hT := wb5.sh hT
    have W := W.tr wb5
    have fwb5 : σb5.2.1 0 3 = (some 27) := by rw [← ewb5]; exact wR_s
    first | refine x_aload_n d_SD_init_87 rfl rfl ?_ | refine x_aloadN_n d_SD_init_87 rfl rfl ?_ | refine x_aloadE_n d_SD_init_87 rfl rfl ?_ | refine x_aloadO_n d_SD_init_87 rfl rfl ?_
    refine Wq.bud (bc := 357 + 1) (bs := 9801 + 3) (by omega) (by omega) ?_
    refine x_newK (k := 33) (bc := 357) (bs := 9801) (by omega) d_SD_init_88 kc_SourceProgram cl_SD_35 ins_SourceProgram ini_SourceProgram (by decide +kernel) EvOK.m (fun Γb6 σb6 wb6 awb6 zwb6 => ?_)
    have q1 := q1.nw wb6 (by first | exact no0 | exact Is.no (by omega)) (by first | exact no0 | exact Is.no (by omega))
    have q3 := q3.nw wb6 (by first | exact no0 | exact Is.no (by omega)) (by first | exact no0 | exact Is.no (by omega))
    have qi := qi.nw wb6 (fun a h1 h2 => by first | exact no0 | exact Is.no (by omega))
    have awb1 := wb6.sh awb1
    have pwb2 := pwb2.nw wb6 (fun a h1 h2 => by first | exact no0 | exact Is.no (by omega))
    have awb3 := wb6.sh awb3
    have pwb4 := pwb4.nw wb6 (fun a h1 h2 => by first | exact no0 | exact Is.no (by omega))
    have f0 := wb6.r (by omega) (by first | exact no0 | exact Is.no (by omega)) f0
    have f1 := wb6.r (by omega) (by first | exact no0 | exact Is.no (by omega)) f1
    have f2 := wb6.r (by omega) (by first | exact no0 | exact Is.no (by omega)) f2
    have fwb5 := wb6.r (by omega) (by first | exact no0 | exact Is.no (by omega)) fwb5
    have hL := wb6.len hL
    have hT := wb6.sh hT
    have W := W.tr wb6.any
    refine x_dup d_SD_init_91 rfl ?_
    first | refine x_aload_n d_SD_init_92 rfl rfl ?_ | refine x_aloadN_n d_SD_init_92 rfl rfl ?_ | refine x_aloadE_n d_SD_init_92 rfl rfl ?_ | refine x_aloadO_n d_SD_init_92 rfl rfl ?_
    refine x_getR d_SD_init_93 f_SD_31 rfl (by assumption) (by assumption) ?_
    first | refine x_aload_n d_SD_init_96 rfl rfl ?_ | refine x_aloadN_n d_SD_init_96 rfl rfl ?_ | refine x_aloadE_n d_SD_init_96 rfl rfl ?_ | refine x_aloadO_n d_SD_init_96 rfl rfl ?_
    refine Wq.bud (bc := 260 + 97) (bs := 8457 + 1344) (by omega) (by omega) ?_
    refine x_callI2 (mc := 97) (ms := 1344) (bc := 260) (bs := 8457) d_SD_init_97 k_SourceProgram_init rfl l_SD_37 v_SourceProgram_init rfl RoomE.m (Nat.le_of_ble_eq_true rfl) (c_SourceProgram_init awb6 hL (fun Γb7 σb7 wb7 pwb7 => ?_))
    have q1 := q1.nw wb7 (by first | exact no0 | exact Is.no (by omega)) (by first | exact no0 | exact Is.no (by omega))
    have q3 := q3.nw wb7 (by first | exact no0 | exact Is.no (by omega)) (by first | exact no0 | exact Is.no (by omega))
    have qi := qi.nw wb7 (fun a h1 h2 => by first | exact no0 | exact Is.no (by omega))
    have awb1 := wb7.sh awb1
    have pwb2 := pwb2.nw wb7 (fun a h1 h2 => by first | exact no0 | exact Is.no (by omega))
    have awb3 := wb7.sh awb3
    have pwb4 := pwb4.nw wb7 (fun a h1 h2 => by first | exact no0 | exact Is.no (by omega))
    have awb6 := wb7.sh awb6
    have f0 := wb7.r (by omega) (by first | exact no0 | exact Is.no (by omega)) f0
    have f1 := wb7.r (by omega) (by first | exact no0 | exact Is.no (by omega)) f1
    have f2 := wb7.r (by omega) (by first | exact no0 | exact Is.no (by omega)) f2
    have fwb5 := wb7.r (by omega) (by first | exact no0 | exact Is.no (by omega)) fwb5
    have hL := wb7.len hL
    have hT := wb7.sh hT
    have W := W.lateN wb7 (by omega)
    first | refine x_putR d_SD_init_100 w_SD_init_40 rfl (by assumption) ?_ | refine x_putN d_SD_init_100 w_SD_init_40 rfl (by assumption) ?_ | refine x_putQ d_SD_init_100 w_SD_init_40 rfl (by assumption) ?_
    generalize ewb8 : wR σb7 0 4 (some 33) = σb8
    have wb8 : Nw Γb7 σb7 (Is 0) 0 Γb7 σb8 := by rw [← ewb8]; exact Nw.wR
    have q1 := q1.nw wb8 (by first | exact no0 | exact Is.no (by omega)) (by first | exact no0 | exact Is.no (by omega))
    have q3 := q3.nw wb8 (by first | exact no0 | exact Is.no (by omega)) (by first | exact no0 | exact Is.no (by omega))
    have qi := qi.nw wb8 (fun a h1 h2 => by first | exact no0 | exact Is.no (by omega))
    have awb1 := wb8.sh awb1
    have pwb2 := pwb2.nw wb8 (fun a h1 h2 => by first | exact no0 | exact Is.no (by omega))
    have awb3 := wb8.sh awb3
    have pwb4 := pwb4.nw wb8 (fun a h1 h2 => by first | exact no0 | exact Is.no (by omega))
    have awb6 := wb8.sh awb6
    have pwb7 := pwb7.nw wb8 (fun a h1 h2 => by first | exact no0 | exact Is.no (by omega))
    have f0 : σb8.2.1 0 0 = some 1 := by rw [← ewb8, wR_j (by decide)]; exact f0
    have f1 : σb8.2.1 0 1 = some 3 := by rw [← ewb8, wR_j (by decide)]; exact f1
    have f2 : σb8.2.1 0 2 = some 5 := by rw [← ewb8, wR_j (by decide)]; exact f2
    have fwb5 : σb8.2.1 0 3 = (some 27) := by rw [← ewb8, wR_j (by decide)]; exact fwb5
    have hL := wb8.len hL
    have hT := wb8.sh hT
    have W := W.tr wb8
    have fwb8 : σb8.2.1 0 4 = (some 33) := by rw [← ewb8]; exact wR_s
    first | refine x_aload_n d_SD_init_103 rfl rfl ?_ | refine x_aloadN_n d_SD_init_103 rfl rfl ?_ | refine x_aloadE_n d_SD_init_103 rfl rfl ?_ | refine x_aloadO_n d_SD_init_103 rfl rfl ?_
    refine Wq.bud (bc := 259 + 1) (bs := 8453 + 4) (by omega) (by omega) ?_
    refine x_newK (k := 131) (bc := 259) (bs := 8453) (by omega) d_SD_init_104 kc_Tree cl_SD_44 ins_Tree ini_Tree (by decide +kernel) EvOK.m (fun Γb9 σb9 wb9 awb9 zwb9 => ?_)
    have q1 := q1.nw wb9 (by first | exact no0 | exact Is.no (by omega)) (by first | exact no0 | exact Is.no (by omega))
    have q3 := q3.nw wb9 (by first | exact no0 | exact Is.no (by omega)) (by first | exact no0 | exact Is.no (by omega))
    have qi := qi.nw wb9 (fun a h1 h2 => by first | exact no0 | exact Is.no (by omega))
    have awb1 := wb9.sh awb1
    have pwb2 := pwb2.nw wb9 (fun a h1 h2 => by first | exact no0 | exact Is.no (by omega))
    have awb3 := wb9.sh awb3
    have pwb4 := pwb4.nw wb9 (fun a h1 h2 => by first | exact no0 | exact Is.no (by omega))
    have awb6 := wb9.sh awb6
    have pwb7 := pwb7.nw wb9 (fun a h1 h2 => by first | exact no0 | exact Is.no (by omega))
    have f0 := wb9.r (by omega) (by first | exact no0 | exact Is.no (by omega)) f0
    have f1 := wb9.r (by omega) (by first | exact no0 | exact Is.no (by omega)) f1
    have f2 := wb9.r (by omega) (by first | exact no0 | exact Is.no (by omega)) f2
    have fwb5 := wb9.r (by omega) (by first | exact no0 | exact Is.no (by omega)) fwb5
    have fwb8 := wb9.r (by omega) (by first | exact no0 | exact Is.no (by omega)) fwb8
    have hL := wb9.len hL
    have hT := wb9.sh hT
    have W := W.tr wb9.any
    refine x_dup d_SD_init_107 rfl ?_
    refine Wq.bud (bc := 18 + 241) (bs := 725 + 7728) (by omega) (by omega) ?_
    refine x_callI0 (mc := 241) (ms := 7728) (bc := 18) (bs := 725) d_SD_init_108 k_Tree_init rfl l_SD_46 v_Tree_init rfl RoomE.m (Nat.le_of_ble_eq_true rfl) (c_Tree_init awb9 hL (fun Γb10 σb10 wb10 pwb10 => ?_))
    have q1 := q1.nw wb10 (by first | exact no0 | exact Is.no (by omega)) (by first | exact no0 | exact Is.no (by omega))
    have q3 := q3.nw wb10 (by first | exact no0 | exact Is.no (by omega)) (by first | exact no0 | exact Is.no (by omega))
    have qi := qi.nw wb10 (fun a h1 h2 => by first | exact no0 | exact Is.no (by omega))
    have awb1 := wb10.sh awb1
    have pwb2 := pwb2.nw wb10 (fun a h1 h2 => by first | exact no0 | exact Is.no (by omega))
    have awb3 := wb10.sh awb3
    have pwb4 := pwb4.nw wb10 (fun a h1 h2 => by first | exact no0 | exact Is.no (by omega))
    have awb6 := wb10.sh awb6
    have pwb7 := pwb7.nw wb10 (fun a h1 h2 => by first | exact no0 | exact Is.no (by omega))
    have awb9 := wb10.sh awb9
    have f0 := wb10.r (by omega) (by first | exact no0 | exact Is.no (by omega)) f0
    have f1 := wb10.r (by omega) (by first | exact no0 | exact Is.no (by omega)) f1
    have f2 := wb10.r (by omega) (by first | exact no0 | exact Is.no (by omega)) f2
    have fwb5 := wb10.r (by omega) (by first | exact no0 | exact Is.no (by omega)) fwb5
    have fwb8 := wb10.r (by omega) (by first | exact no0 | exact Is.no (by omega)) fwb8
    have hL := wb10.len hL
    have hT := wb10.sh hT
    have W := W.lateN wb10 (by omega)
    first | refine x_putR d_SD_init_111 w_SD_init_47 rfl (by assumption) ?_ | refine x_putN d_SD_init_111 w_SD_init_47 rfl (by assumption) ?_ | refine x_putQ d_SD_init_111 w_SD_init_47 rfl (by assumption) ?_
    generalize ewb11 : wR σb10 0 5 (some 131) = σb11
    have wb11 : Nw Γb10 σb10 (Is 0) 0 Γb10 σb11 := by rw [← ewb11]; exact Nw.wR
    have q1 := q1.nw wb11 (by first | exact no0 | exact Is.no (by omega)) (by first | exact no0 | exact Is.no (by omega))
    have q3 := q3.nw wb11 (by first | exact no0 | exact Is.no (by omega)) (by first | exact no0 | exact Is.no (by omega))
    have qi := qi.nw wb11 (fun a h1 h2 => by first | exact no0 | exact Is.no (by omega))
    have awb1 := wb11.sh awb1
    have pwb2 := pwb2.nw wb11 (fun a h1 h2 => by first | exact no0 | exact Is.no (by omega))
    have awb3 := wb11.sh awb3
    have pwb4 := pwb4.nw wb11 (fun a h1 h2 => by first | exact no0 | exact Is.no (by omega))
    have awb6 := wb11.sh awb6
    have pwb7 := pwb7.nw wb11 (fun a h1 h2 => by first | exact no0 | exact Is.no (by omega))
    have awb9 := wb11.sh awb9
    have pwb10 := pwb10.nw wb11 (fun a h1 h2 => by first | exact no0 | exact Is.no (by omega))
    have f0 : σb11.2.1 0 0 = some 1 := by rw [← ewb11, wR_j (by decide)]; exact f0
    have f1 : σb11.2.1 0 1 = some 3 := by rw [← ewb11, wR_j (by decide)]; exact f1
    have f2 : σb11.2.1 0 2 = some 5 := by rw [← ewb11, wR_j (by decide)]; exact f2
    have fwb5 : σb11.2.1 0 3 = (some 27) := by rw [← ewb11, wR_j (by decide)]; exact fwb5
    have fwb8 : σb11.2.1 0 4 = (some 33) := by rw [← ewb11, wR_j (by decide)]; exact fwb8
    have hL := wb11.len hL
    have hT := wb11.sh hT
    have W := W.tr wb11
    have fwb11 : σb11.2.1 0 5 = (some 131) := by rw [← ewb11]; exact wR_s
    first | refine x_aload_n d_SD_init_114 rfl rfl ?_ | refine x_aloadN_n d_SD_init_114 rfl rfl ?_ | refine x_aloadE_n d_SD_init_114 rfl rfl ?_ | refine x_aloadO_n d_SD_init_114 rfl rfl ?_
    refine Wq.bud (bc := 17 + 1) (bs := 717 + 8) (by omega) (by omega) ?_
    refine x_newK (k := 373) (bc := 17) (bs := 717) (by omega) d_SD_init_115 kc_Driver cl_SD_51 ins_Driver ini_Driver (by decide +kernel) EvOK.m (fun Γb12 σb12 wb12 awb12 zwb12 => ?_)
    have q1 := q1.nw wb12 (by first | exact no0 | exact Is.no (by omega)) (by first | exact no0 | exact Is.no (by omega))
    have q3 := q3.nw wb12 (by first | exact no0 | exact Is.no (by omega)) (by first | exact no0 | exact Is.no (by omega))
    have qi := qi.nw wb12 (fun a h1 h2 => by first | exact no0 | exact Is.no (by omega))
    have awb1 := wb12.sh awb1
    have pwb2 := pwb2.nw wb12 (fun a h1 h2 => by first | exact no0 | exact Is.no (by omega))
    have awb3 := wb12.sh awb3
    have pwb4 := pwb4.nw wb12 (fun a h1 h2 => by first | exact no0 | exact Is.no (by omega))
    have awb6 := wb12.sh awb6
    have pwb7 := pwb7.nw wb12 (fun a h1 h2 => by first | exact no0 | exact Is.no (by omega))
    have awb9 := wb12.sh awb9
    have pwb10 := pwb10.nw wb12 (fun a h1 h2 => by first | exact no0 | exact Is.no (by omega))
    have f0 := wb12.r (by omega) (by first | exact no0 | exact Is.no (by omega)) f0
    have f1 := wb12.r (by omega) (by first | exact no0 | exact Is.no (by omega)) f1
    have f2 := wb12.r (by omega) (by first | exact no0 | exact Is.no (by omega)) f2
    have fwb5 := wb12.r (by omega) (by first | exact no0 | exact Is.no (by omega)) fwb5
    have fwb8 := wb12.r (by omega) (by first | exact no0 | exact Is.no (by omega)) fwb8
    have fwb11 := wb12.r (by omega) (by first | exact no0 | exact Is.no (by omega)) fwb11
    have hL := wb12.len hL
    have hT := wb12.sh hT
    have W := W.tr wb12.any
    refine x_dup d_SD_init_118 rfl ?_
    first | refine x_aload_n d_SD_init_119 rfl rfl ?_ | refine x_aloadN_n d_SD_init_119 rfl rfl ?_ | refine x_aloadE_n d_SD_init_119 rfl rfl ?_ | refine x_aloadO_n d_SD_init_119 rfl rfl ?_
    refine x_getR d_SD_init_120 f_SD_31 rfl (by assumption) (by assumption) ?_
    first | refine x_aload_n d_SD_init_123 rfl rfl ?_ | refine x_aloadN_n d_SD_init_123 rfl rfl ?_ | refine x_aloadE_n d_SD_init_123 rfl rfl ?_ | refine x_aloadO_n d_SD_init_123 rfl rfl ?_
    refine x_getR d_SD_init_124 f_SD_40 rfl (by assumption) (by assumption) ?_
    first | refine x_aload_n d_SD_init_127 rfl rfl ?_ | refine x_aloadN_n d_SD_init_127 rfl rfl ?_ | refine x_aloadE_n d_SD_init_127 rfl rfl ?_ | refine x_aloadO_n d_SD_init_127 rfl rfl ?_
    refine x_getR d_SD_init_128 f_SD_47 rfl (by assumption) (by assumption) ?_
    first | refine x_aload_n d_SD_init_131 rfl rfl ?_ | refine x_aloadN_n d_SD_init_131 rfl rfl ?_ | refine x_aloadE_n d_SD_init_131 rfl rfl ?_ | refine x_aloadO_n d_SD_init_131 rfl rfl ?_
    refine Wq.bud (bc := 6 + 11) (bs := 415 + 302) (by omega) (by omega) ?_
    refine x_callI4 (mc := 11) (ms := 302) (bc := 6) (bs := 415) d_SD_init_132 k_Driver_init rfl l_SD_53 v_Driver_init rfl RoomE.m (Nat.le_of_ble_eq_true rfl) (c_Driver_init awb12 hL (fun Γb13 σb13 wb13 pwb13 => ?_))
    have q1 := q1.nw wb13 (by first | exact no0 | exact Is.no (by omega)) (by first | exact no0 | exact Is.no (by omega))
    have q3 := q3.nw wb13 (by first | exact no0 | exact Is.no (by omega)) (by first | exact no0 | exact Is.no (by omega))
    have qi := qi.nw wb13 (fun a h1 h2 => by first | exact no0 | exact Is.no (by omega))
    have awb1 := wb13.sh awb1
    have pwb2 := pwb2.nw wb13 (fun a h1 h2 => by first | exact no0 | exact Is.no (by omega))
    have awb3 := wb13.sh awb3
    have pwb4 := pwb4.nw wb13 (fun a h1 h2 => by first | exact no0 | exact Is.no (by omega))
    have awb6 := wb13.sh awb6
    have pwb7 := pwb7.nw wb13 (fun a h1 h2 => by first | exact no0 | exact Is.no (by omega))
    have awb9 := wb13.sh awb9
    have pwb10 := pwb10.nw wb13 (fun a h1 h2 => by first | exact no0 | exact Is.no (by omega))
    have awb12 := wb13.sh awb12
    have f0 := wb13.r (by omega) (by first | exact no0 | exact Is.no (by omega)) f0
    have f1 := wb13.r (by omega) (by first | exact no0 | exact Is.no (by omega)) f1
    have f2 := wb13.r (by omega) (by first | exact no0 | exact Is.no (by omega)) f2
    have fwb5 := wb13.r (by omega) (by first | exact no0 | exact Is.no (by omega)) fwb5
    have fwb8 := wb13.r (by omega) (by first | exact no0 | exact Is.no (by omega)) fwb8
    have fwb11 := wb13.r (by omega) (by first | exact no0 | exact Is.no (by omega)) fwb11
    have hL := wb13.len hL
    have hT := wb13.sh hT
    have W := W.lateN wb13 (by omega)
    have hdr := pwb13.1
    have hge := pwb13.2
    first | refine x_putR d_SD_init_135 w_SD_init_56 rfl (by assumption) ?_ | refine x_putN d_SD_init_135 w_SD_init_56 rfl (by assumption) ?_ | refine x_putQ d_SD_init_135 w_SD_init_56 rfl (by assumption) ?_
    generalize ewb14 : wR σb13 0 6 (some 373) = σb14
    have wb14 : Nw Γb13 σb13 (Is 0) 0 Γb13 σb14 := by rw [← ewb14]; exact Nw.wR
    have q1 := q1.nw wb14 (by first | exact no0 | exact Is.no (by omega)) (by first | exact no0 | exact Is.no (by omega))
    have q3 := q3.nw wb14 (by first | exact no0 | exact Is.no (by omega)) (by first | exact no0 | exact Is.no (by omega))
    have qi := qi.nw wb14 (fun a h1 h2 => by first | exact no0 | exact Is.no (by omega))
    have awb1 := wb14.sh awb1
    have pwb2 := pwb2.nw wb14 (fun a h1 h2 => by first | exact no0 | exact Is.no (by omega))
    have awb3 := wb14.sh awb3
    have pwb4 := pwb4.nw wb14 (fun a h1 h2 => by first | exact no0 | exact Is.no (by omega))
    have awb6 := wb14.sh awb6
    have pwb7 := pwb7.nw wb14 (fun a h1 h2 => by first | exact no0 | exact Is.no (by omega))
    have awb9 := wb14.sh awb9
    have pwb10 := pwb10.nw wb14 (fun a h1 h2 => by first | exact no0 | exact Is.no (by omega))
    have awb12 := wb14.sh awb12
    have hdr := hdr.nw wb14 (fun a h1 h2 => by first | exact no0 | exact Is.no (by omega))
    have hge := hge.nw wb14 (fun a h1 h2 => by first | exact no0 | exact Is.no (by omega))
    have f0 : σb14.2.1 0 0 = some 1 := by rw [← ewb14, wR_j (by decide)]; exact f0
    have f1 : σb14.2.1 0 1 = some 3 := by rw [← ewb14, wR_j (by decide)]; exact f1
    have f2 : σb14.2.1 0 2 = some 5 := by rw [← ewb14, wR_j (by decide)]; exact f2
    have fwb5 : σb14.2.1 0 3 = (some 27) := by rw [← ewb14, wR_j (by decide)]; exact fwb5
    have fwb8 : σb14.2.1 0 4 = (some 33) := by rw [← ewb14, wR_j (by decide)]; exact fwb8
    have fwb11 : σb14.2.1 0 5 = (some 131) := by rw [← ewb14, wR_j (by decide)]; exact fwb11
    have hL := wb14.len hL
    have hT := wb14.sh hT
    have W := W.tr wb14
    have fwb14 : σb14.2.1 0 6 = (some 373) := by rw [← ewb14]; exact wR_s
    first | refine x_aload_n d_SD_init_138 rfl rfl ?_ | refine x_aloadN_n d_SD_init_138 rfl rfl ?_ | refine x_aloadE_n d_SD_init_138 rfl rfl ?_ | refine x_aloadO_n d_SD_init_138 rfl rfl ?_
    refine Wq.bud (bc := 5 + 1) (bs := 412 + 3) (by omega) (by omega) ?_
    refine x_newK (k := 385) (bc := 5) (bs := 412) (by omega) d_SD_init_139 kc_ResidualProgram cl_SD_60 ins_ResidualProgram ini_ResidualProgram (by decide +kernel) EvOK.m (fun Γb15 σb15 wb15 awb15 zwb15 => ?_)
    have q1 := q1.nw wb15 (by first | exact no0 | exact Is.no (by omega)) (by first | exact no0 | exact Is.no (by omega))
    have q3 := q3.nw wb15 (by first | exact no0 | exact Is.no (by omega)) (by first | exact no0 | exact Is.no (by omega))
    have qi := qi.nw wb15 (fun a h1 h2 => by first | exact no0 | exact Is.no (by omega))
    have awb1 := wb15.sh awb1
    have pwb2 := pwb2.nw wb15 (fun a h1 h2 => by first | exact no0 | exact Is.no (by omega))
    have awb3 := wb15.sh awb3
    have pwb4 := pwb4.nw wb15 (fun a h1 h2 => by first | exact no0 | exact Is.no (by omega))
    have awb6 := wb15.sh awb6
    have pwb7 := pwb7.nw wb15 (fun a h1 h2 => by first | exact no0 | exact Is.no (by omega))
    have awb9 := wb15.sh awb9
    have pwb10 := pwb10.nw wb15 (fun a h1 h2 => by first | exact no0 | exact Is.no (by omega))
    have awb12 := wb15.sh awb12
    have hdr := hdr.nw wb15 (fun a h1 h2 => by first | exact no0 | exact Is.no (by omega))
    have hge := hge.nw wb15 (fun a h1 h2 => by first | exact no0 | exact Is.no (by omega))
    have f0 := wb15.r (by omega) (by first | exact no0 | exact Is.no (by omega)) f0
    have f1 := wb15.r (by omega) (by first | exact no0 | exact Is.no (by omega)) f1
    have f2 := wb15.r (by omega) (by first | exact no0 | exact Is.no (by omega)) f2
    have fwb5 := wb15.r (by omega) (by first | exact no0 | exact Is.no (by omega)) fwb5
    have fwb8 := wb15.r (by omega) (by first | exact no0 | exact Is.no (by omega)) fwb8
    have fwb11 := wb15.r (by omega) (by first | exact no0 | exact Is.no (by omega)) fwb11
    have fwb14 := wb15.r (by omega) (by first | exact no0 | exact Is.no (by omega)) fwb14
    have hL := wb15.len hL
    have hT := wb15.sh hT
    have W := W.tr wb15.any
    refine x_dup d_SD_init_142 rfl ?_
    first | refine x_aload_n d_SD_init_143 rfl rfl ?_ | refine x_aloadN_n d_SD_init_143 rfl rfl ?_ | refine x_aloadE_n d_SD_init_143 rfl rfl ?_ | refine x_aloadO_n d_SD_init_143 rfl rfl ?_
    refine x_getR d_SD_init_144 f_SD_31 rfl (by assumption) (by assumption) ?_
    first | refine x_aload_n d_SD_init_147 rfl rfl ?_ | refine x_aloadN_n d_SD_init_147 rfl rfl ?_ | refine x_aloadE_n d_SD_init_147 rfl rfl ?_ | refine x_aloadO_n d_SD_init_147 rfl rfl ?_
    first | refine x_aload_n d_SD_init_148 rfl rfl ?_ | refine x_aloadN_n d_SD_init_148 rfl rfl ?_ | refine x_aloadE_n d_SD_init_148 rfl rfl ?_ | refine x_aloadO_n d_SD_init_148 rfl rfl ?_
    refine x_getR d_SD_init_149 f_SD_47 rfl (by assumption) (by assumption) ?_
    refine Wq.bud (bc := 5 + 0) (bs := 412 + 0) (by omega) (by omega) ?_
    refine x_callI3 (mc := 0) (ms := 0) (bc := 5) (bs := 412) d_SD_init_152 k_ResidualProgram_init rfl l_SD_62 v_ResidualProgram_init rfl RoomE.m (Nat.le_of_ble_eq_true rfl) (c_ResidualProgram_init awb15 hL (fun Γb16 σb16 wb16 pwb16 => ?_))
    have q1 := q1.nw wb16 (by first | exact no0 | exact Is.no (by omega)) (by first | exact no0 | exact Is.no (by omega))
    have q3 := q3.nw wb16 (by first | exact no0 | exact Is.no (by omega)) (by first | exact no0 | exact Is.no (by omega))
    have qi := qi.nw wb16 (fun a h1 h2 => by first | exact no0 | exact Is.no (by omega))
    have awb1 := wb16.sh awb1
    have pwb2 := pwb2.nw wb16 (fun a h1 h2 => by first | exact no0 | exact Is.no (by omega))
    have awb3 := wb16.sh awb3
    have pwb4 := pwb4.nw wb16 (fun a h1 h2 => by first | exact no0 | exact Is.no (by omega))
    have awb6 := wb16.sh awb6
    have pwb7 := pwb7.nw wb16 (fun a h1 h2 => by first | exact no0 | exact Is.no (by omega))
    have awb9 := wb16.sh awb9
    have pwb10 := pwb10.nw wb16 (fun a h1 h2 => by first | exact no0 | exact Is.no (by omega))
    have awb12 := wb16.sh awb12
    have hdr := hdr.nw wb16 (fun a h1 h2 => by first | exact no0 | exact Is.no (by omega))
    have hge := hge.nw wb16 (fun a h1 h2 => by first | exact no0 | exact Is.no (by omega))
    have awb15 := wb16.sh awb15
    have f0 := wb16.r (by omega) (by first | exact no0 | exact Is.no (by omega)) f0
    have f1 := wb16.r (by omega) (by first | exact no0 | exact Is.no (by omega)) f1
    have f2 := wb16.r (by omega) (by first | exact no0 | exact Is.no (by omega)) f2
    have fwb5 := wb16.r (by omega) (by first | exact no0 | exact Is.no (by omega)) fwb5
    have fwb8 := wb16.r (by omega) (by first | exact no0 | exact Is.no (by omega)) fwb8
    have fwb11 := wb16.r (by omega) (by first | exact no0 | exact Is.no (by omega)) fwb11
    have fwb14 := wb16.r (by omega) (by first | exact no0 | exact Is.no (by omega)) fwb14
    have hL := wb16.len hL
    have hT := wb16.sh hT
    have W := W.lateN wb16 (by omega)
    first | refine x_putR d_SD_init_155 w_SD_init_65 rfl (by assumption) ?_ | refine x_putN d_SD_init_155 w_SD_init_65 rfl (by assumption) ?_ | refine x_putQ d_SD_init_155 w_SD_init_65 rfl (by assumption) ?_
    generalize ewb17 : wR σb16 0 7 (some 385) = σb17
    have wb17 : Nw Γb16 σb16 (Is 0) 0 Γb16 σb17 := by rw [← ewb17]; exact Nw.wR
    have q1 := q1.nw wb17 (by first | exact no0 | exact Is.no (by omega)) (by first | exact no0 | exact Is.no (by omega))
    have q3 := q3.nw wb17 (by first | exact no0 | exact Is.no (by omega)) (by first | exact no0 | exact Is.no (by omega))
    have qi := qi.nw wb17 (fun a h1 h2 => by first | exact no0 | exact Is.no (by omega))
    have awb1 := wb17.sh awb1
    have pwb2 := pwb2.nw wb17 (fun a h1 h2 => by first | exact no0 | exact Is.no (by omega))
    have awb3 := wb17.sh awb3
    have pwb4 := pwb4.nw wb17 (fun a h1 h2 => by first | exact no0 | exact Is.no (by omega))
    have awb6 := wb17.sh awb6
    have pwb7 := pwb7.nw wb17 (fun a h1 h2 => by first | exact no0 | exact Is.no (by omega))
    have awb9 := wb17.sh awb9
    have pwb10 := pwb10.nw wb17 (fun a h1 h2 => by first | exact no0 | exact Is.no (by omega))
    have awb12 := wb17.sh awb12
    have hdr := hdr.nw wb17 (fun a h1 h2 => by first | exact no0 | exact Is.no (by omega))
    have hge := hge.nw wb17 (fun a h1 h2 => by first | exact no0 | exact Is.no (by omega))
    have awb15 := wb17.sh awb15
    have pwb16 := pwb16.nw wb17 (by first | exact no0 | exact Is.no (by omega))
    have f0 : σb17.2.1 0 0 = some 1 := by rw [← ewb17, wR_j (by decide)]; exact f0
    have f1 : σb17.2.1 0 1 = some 3 := by rw [← ewb17, wR_j (by decide)]; exact f1
    have f2 : σb17.2.1 0 2 = some 5 := by rw [← ewb17, wR_j (by decide)]; exact f2
    have fwb5 : σb17.2.1 0 3 = (some 27) := by rw [← ewb17, wR_j (by decide)]; exact fwb5
    have fwb8 : σb17.2.1 0 4 = (some 33) := by rw [← ewb17, wR_j (by decide)]; exact fwb8
    have fwb11 : σb17.2.1 0 5 = (some 131) := by rw [← ewb17, wR_j (by decide)]; exact fwb11
    have fwb14 : σb17.2.1 0 6 = (some 373) := by rw [← ewb17, wR_j (by decide)]; exact fwb14
    have hL := wb17.len hL
    have hT := wb17.sh hT
    have W := W.tr wb17
    have fwb17 : σb17.2.1 0 7 = (some 385) := by rw [← ewb17]; exact wR_s
    first | refine x_aload_n d_SD_init_158 rfl rfl ?_ | refine x_aloadN_n d_SD_init_158 rfl rfl ?_ | refine x_aloadE_n d_SD_init_158 rfl rfl ?_ | refine x_aloadO_n d_SD_init_158 rfl rfl ?_
    refine Wq.bud (bc := 4 + 1) (bs := 406 + 6) (by omega) (by omega) ?_
    refine x_newK (k := 386) (bc := 4) (bs := 406) (by omega) d_SD_init_159 kc_Runner cl_SD_69 ins_Runner ini_Runner (by decide +kernel) EvOK.m (fun Γb18 σb18 wb18 awb18 zwb18 => ?_)
    have q1 := q1.nw wb18 (by first | exact no0 | exact Is.no (by omega)) (by first | exact no0 | exact Is.no (by omega))
    have q3 := q3.nw wb18 (by first | exact no0 | exact Is.no (by omega)) (by first | exact no0 | exact Is.no (by omega))
    have qi := qi.nw wb18 (fun a h1 h2 => by first | exact no0 | exact Is.no (by omega))
    have awb1 := wb18.sh awb1
    have pwb2 := pwb2.nw wb18 (fun a h1 h2 => by first | exact no0 | exact Is.no (by omega))
    have awb3 := wb18.sh awb3
    have pwb4 := pwb4.nw wb18 (fun a h1 h2 => by first | exact no0 | exact Is.no (by omega))
    have awb6 := wb18.sh awb6
    have pwb7 := pwb7.nw wb18 (fun a h1 h2 => by first | exact no0 | exact Is.no (by omega))
    have awb9 := wb18.sh awb9
    have pwb10 := pwb10.nw wb18 (fun a h1 h2 => by first | exact no0 | exact Is.no (by omega))
    have awb12 := wb18.sh awb12
    have hdr := hdr.nw wb18 (fun a h1 h2 => by first | exact no0 | exact Is.no (by omega))
    have hge := hge.nw wb18 (fun a h1 h2 => by first | exact no0 | exact Is.no (by omega))
    have awb15 := wb18.sh awb15
    have pwb16 := pwb16.nw wb18 (by first | exact no0 | exact Is.no (by omega))
    have f0 := wb18.r (by omega) (by first | exact no0 | exact Is.no (by omega)) f0
    have f1 := wb18.r (by omega) (by first | exact no0 | exact Is.no (by omega)) f1
    have f2 := wb18.r (by omega) (by first | exact no0 | exact Is.no (by omega)) f2
    have fwb5 := wb18.r (by omega) (by first | exact no0 | exact Is.no (by omega)) fwb5
    have fwb8 := wb18.r (by omega) (by first | exact no0 | exact Is.no (by omega)) fwb8
    have fwb11 := wb18.r (by omega) (by first | exact no0 | exact Is.no (by omega)) fwb11
    have fwb14 := wb18.r (by omega) (by first | exact no0 | exact Is.no (by omega)) fwb14
    have fwb17 := wb18.r (by omega) (by first | exact no0 | exact Is.no (by omega)) fwb17
    have hL := wb18.len hL
    have hT := wb18.sh hT
    have W := W.tr wb18.any
    refine x_dup d_SD_init_162 rfl ?_
    first | refine x_aload_n d_SD_init_163 rfl rfl ?_ | refine x_aloadN_n d_SD_init_163 rfl rfl ?_ | refine x_aloadE_n d_SD_init_163 rfl rfl ?_ | refine x_aloadO_n d_SD_init_163 rfl rfl ?_
    refine x_getR d_SD_init_164 f_SD_31 rfl (by assumption) (by assumption) ?_
    first | refine x_aload_n d_SD_init_167 rfl rfl ?_ | refine x_aloadN_n d_SD_init_167 rfl rfl ?_ | refine x_aloadE_n d_SD_init_167 rfl rfl ?_ | refine x_aloadO_n d_SD_init_167 rfl rfl ?_
    refine Wq.bud (bc := 0 + 4) (bs := 0 + 406) (by omega) (by omega) ?_
    refine x_callI2 (mc := 4) (ms := 406) (bc := 0) (bs := 0) d_SD_init_168 k_Runner_init rfl l_SD_71 v_Runner_init rfl RoomE.m (Nat.le_of_ble_eq_true rfl) (c_Runner_init awb18 hL (fun Γb19 σb19 wb19 pwb19 => ?_))
    have q1 := q1.nw wb19 (by first | exact no0 | exact Is.no (by omega)) (by first | exact no0 | exact Is.no (by omega))
    have q3 := q3.nw wb19 (by first | exact no0 | exact Is.no (by omega)) (by first | exact no0 | exact Is.no (by omega))
    have qi := qi.nw wb19 (fun a h1 h2 => by first | exact no0 | exact Is.no (by omega))
    have awb1 := wb19.sh awb1
    have pwb2 := pwb2.nw wb19 (fun a h1 h2 => by first | exact no0 | exact Is.no (by omega))
    have awb3 := wb19.sh awb3
    have pwb4 := pwb4.nw wb19 (fun a h1 h2 => by first | exact no0 | exact Is.no (by omega))
    have awb6 := wb19.sh awb6
    have pwb7 := pwb7.nw wb19 (fun a h1 h2 => by first | exact no0 | exact Is.no (by omega))
    have awb9 := wb19.sh awb9
    have pwb10 := pwb10.nw wb19 (fun a h1 h2 => by first | exact no0 | exact Is.no (by omega))
    have awb12 := wb19.sh awb12
    have hdr := hdr.nw wb19 (fun a h1 h2 => by first | exact no0 | exact Is.no (by omega))
    have hge := hge.nw wb19 (fun a h1 h2 => by first | exact no0 | exact Is.no (by omega))
    have awb15 := wb19.sh awb15
    have pwb16 := pwb16.nw wb19 (by first | exact no0 | exact Is.no (by omega))
    have awb18 := wb19.sh awb18
    have f0 := wb19.r (by omega) (by first | exact no0 | exact Is.no (by omega)) f0
    have f1 := wb19.r (by omega) (by first | exact no0 | exact Is.no (by omega)) f1
    have f2 := wb19.r (by omega) (by first | exact no0 | exact Is.no (by omega)) f2
    have fwb5 := wb19.r (by omega) (by first | exact no0 | exact Is.no (by omega)) fwb5
    have fwb8 := wb19.r (by omega) (by first | exact no0 | exact Is.no (by omega)) fwb8
    have fwb11 := wb19.r (by omega) (by first | exact no0 | exact Is.no (by omega)) fwb11
    have fwb14 := wb19.r (by omega) (by first | exact no0 | exact Is.no (by omega)) fwb14
    have fwb17 := wb19.r (by omega) (by first | exact no0 | exact Is.no (by omega)) fwb17
    have hL := wb19.len hL
    have hT := wb19.sh hT
    have W := W.lateN wb19 (by omega)
    first | refine x_putR d_SD_init_171 w_SD_init_72 rfl (by assumption) ?_ | refine x_putN d_SD_init_171 w_SD_init_72 rfl (by assumption) ?_ | refine x_putQ d_SD_init_171 w_SD_init_72 rfl (by assumption) ?_
    generalize ewb20 : wR σb19 0 8 (some 386) = σb20
    have wb20 : Nw Γb19 σb19 (Is 0) 0 Γb19 σb20 := by rw [← ewb20]; exact Nw.wR
    have q1 := q1.nw wb20 (by first | exact no0 | exact Is.no (by omega)) (by first | exact no0 | exact Is.no (by omega))
    have q3 := q3.nw wb20 (by first | exact no0 | exact Is.no (by omega)) (by first | exact no0 | exact Is.no (by omega))
    have qi := qi.nw wb20 (fun a h1 h2 => by first | exact no0 | exact Is.no (by omega))
    have awb1 := wb20.sh awb1
    have pwb2 := pwb2.nw wb20 (fun a h1 h2 => by first | exact no0 | exact Is.no (by omega))
    have awb3 := wb20.sh awb3
    have pwb4 := pwb4.nw wb20 (fun a h1 h2 => by first | exact no0 | exact Is.no (by omega))
    have awb6 := wb20.sh awb6
    have pwb7 := pwb7.nw wb20 (fun a h1 h2 => by first | exact no0 | exact Is.no (by omega))
    have awb9 := wb20.sh awb9
    have pwb10 := pwb10.nw wb20 (fun a h1 h2 => by first | exact no0 | exact Is.no (by omega))
    have awb12 := wb20.sh awb12
    have hdr := hdr.nw wb20 (fun a h1 h2 => by first | exact no0 | exact Is.no (by omega))
    have hge := hge.nw wb20 (fun a h1 h2 => by first | exact no0 | exact Is.no (by omega))
    have awb15 := wb20.sh awb15
    have pwb16 := pwb16.nw wb20 (by first | exact no0 | exact Is.no (by omega))
    have awb18 := wb20.sh awb18
    have pwb19 := pwb19.nw wb20 (fun a h1 h2 => by first | exact no0 | exact Is.no (by omega))
    have f0 : σb20.2.1 0 0 = some 1 := by rw [← ewb20, wR_j (by decide)]; exact f0
    have f1 : σb20.2.1 0 1 = some 3 := by rw [← ewb20, wR_j (by decide)]; exact f1
    have f2 : σb20.2.1 0 2 = some 5 := by rw [← ewb20, wR_j (by decide)]; exact f2
    have fwb5 : σb20.2.1 0 3 = (some 27) := by rw [← ewb20, wR_j (by decide)]; exact fwb5
    have fwb8 : σb20.2.1 0 4 = (some 33) := by rw [← ewb20, wR_j (by decide)]; exact fwb8
    have fwb11 : σb20.2.1 0 5 = (some 131) := by rw [← ewb20, wR_j (by decide)]; exact fwb11
    have fwb14 : σb20.2.1 0 6 = (some 373) := by rw [← ewb20, wR_j (by decide)]; exact fwb14
    have fwb17 : σb20.2.1 0 7 = (some 385) := by rw [← ewb20, wR_j (by decide)]; exact fwb17
    have hL := wb20.len hL
    have hT := wb20.sh hT
    have W := W.tr wb20
    have fwb20 : σb20.2.1 0 8 = (some 386) := by rw [← ewb20]; exact wR_s
    exact x_return d_SD_init_174 rfl (hQ _ _ W (⟨⟨hT, f0, f1, f2, fwb5, fwb8, fwb11, fwb14, fwb17, fwb20⟩, ⟨q1, by decide⟩, ⟨q3, by decide⟩, qi, ⟨0, _, by omega, pwb2⟩, pwb4, pwb7, pwb10, hdr, ⟨_, hge⟩, pwb16, pwb19⟩))
  have lp : ∀ (r i : Nat) (Γ1 : List Sh) (σ1 : Mem), i + r = 8 → Γ1.length = 6 + 2 * i → Γ1[0]? = some (0, 0) → Γ1[5]? = some (4, 8) → (σ1.2.1 0 2 = some 5 ∧ σ1.2.1 0 0 = some 1 ∧ σ1.2.1 0 1 = some 3 ∧ isRow Γ1 σ1 1 24 [] ∧ isRow Γ1 σ1 3 24 []) → (∀ u, u < i → σ1.2.1 5 u = some (6 + 2 * u) ∧ isRow Γ1 σ1 (6 + 2 * u) 24 []) → Nw Γ σ (Is 0) (5 + 2 * i) Γ1 σ1 → Wq G M_SD_init (Em G (d + 4) 390 11414 Q) (2 * r + 369) (27 * r + 11136) 41 [some (rf G 0), some (.int (nI i))] [] [] Γ1 σ1 := by
    intro r
    induction r with
    | zero =>
      intro i Γ1 σ1 hi hL hT ha hf hr W
      have hf0 := hf.1
      refine x_iload_n d_SD_init_41 rfl rfl ?_
      refine x_bipush (v := 8) d_SD_init_42 (by decide) ?_
      refine x_icmp_ge (tgt := 68) d_SD_init_44 (by decide) (fun c44 => ?_) (fun c44 => ?_)
      · refine Wq.bud (bc := 369) (bs := 11136) (by omega) (by omega) ?_
        have e : i = 8 := by omega
        subst e
        exact hend Γ1 σ1 (by omega) hT ha hf hr W
      · exact absurd (show nI 8 ≤ nI i from nI_le (by omega) (by omega)) c44
    | succ r ih =>
      intro i Γ1 σ1 hi hL hT ha hf hr W
      have hf0 := hf.1
      refine x_iload_n d_SD_init_41 rfl rfl ?_
      refine x_bipush (v := 8) d_SD_init_42 (by decide) ?_
      refine x_icmp_ge (tgt := 68) d_SD_init_44 (by decide) (fun c44 => ?_) (fun c44 => ?_)
      · exact absurd ((nI_leI (by omega) (by omega)).mp (show nI 8 ≤ nI i from c44)) (by omega)
      · first | refine x_aload_n d_SD_init_47 rfl rfl ?_ | refine x_aloadN_n d_SD_init_47 rfl rfl ?_ | refine x_aloadE_n d_SD_init_47 rfl rfl ?_ | refine x_aloadO_n d_SD_init_47 rfl rfl ?_
        refine x_getR d_SD_init_48 f_SD_21 rfl (by assumption) (by assumption) ?_
        refine x_iload_n d_SD_init_51 rfl rfl ?_
        refine Wq.bud (bc := (2 * r + 369 + 1) + 1) (bs := (27 * r + 11136 + 24) + 3) (by omega) (by omega) ?_
        refine x_newK (k := 6 + 2 * i) (bc := 2 * r + 369 + 1) (bs := 27 * r + 11136 + 24) hL d_SD_init_52 kc_Row cl_SD_9 ins_Row ini_Row (by decide +kernel) EvOK.m (fun Γ2 σ2 w2 a2 z2 => ?_)
        have hL2 := w2.len hL
        refine x_dup d_SD_init_55 rfl ?_
        refine x_bipush (v := 24) d_SD_init_56 (by decide) ?_
        refine x_callI1 (mc := 1) (ms := 24) (bc := 2 * r + 369) (bs := 27 * r + 11136) d_SD_init_58 k_Row_init rfl l_SD_11 v_Row_init rfl RoomE.m (Nat.le_of_ble_eq_true rfl) (c_Row_init (n := 24) a2 hL2 (by omega) (fun Γ3 σ3 w3 p3 => ?_))
        have w := Nw.new w2 w3 hL
        have hT := w.sh hT
        have ha := w.sh ha
        have a3 := w3.sh a2
        refine x_aast d_SD_init_61 (by assumption) (by decide) (by assumption) rfl rfl (vp_in_nI (show i < 8 by omega) (by decide)) ?_
        rw [nI_clamp (show i < 2 ^ 31 by omega)]
        refine x_iinc (v := nI (i + 1)) d_SD_init_62 rfl (nI_1 i) rfl ?_
        refine x_goto (tgt := 41) d_SD_init_65 (by decide) ?_
        have w4 : Nw Γ3 σ3 (Is 5) 0 Γ3 (wR σ3 5 i (some (6 + 2 * i))) := Nw.wR
        refine Wq.fg (ih (i + 1) Γ3 _ (by omega) (by have := w.len hL; omega) hT ha ?_ (fun u hu => ?_) (by have := (W.tr w.any).late w4 (by omega); exact this)) lsub_rf
        · exact ⟨(by rw [wR_o (by decide)]; exact w.r (by omega) no0 hf.1), (by rw [wR_o (by decide)]; exact w.r (by omega) no0 hf.2.1), (by rw [wR_o (by decide)]; exact w.r (by omega) no0 hf.2.2.1), (hf.2.2.2.1.nw w no0 no0).nw w4 (Is.no (by decide)) (Is.no (by decide)), (hf.2.2.2.2.nw w no0 no0).nw w4 (Is.no (by decide)) (Is.no (by decide))⟩
        · by_cases e : u = i
          · subst e
            exact ⟨wR_s, p3.nw w4 (Is.no (by omega)) (Is.no (by omega))⟩
          · exact ⟨by rw [wR_j e]; exact w.r (gLt (by assumption)) no0 (hr u (by omega)).1, ((hr u (by omega)).2.nw w no0 no0).nw w4 (Is.no (by omega)) (Is.no (by omega))⟩
  have W : Nw Γ σ (Is 0) 0 Γ σ := Nw.rf
  first | refine x_aload_n d_SD_init_0 rfl rfl ?_ | refine x_aloadN_n d_SD_init_0 rfl rfl ?_ | refine x_aloadE_n d_SD_init_0 rfl rfl ?_ | refine x_aloadO_n d_SD_init_0 rfl rfl ?_
  refine x_objInit d_SD_init_1 l_SD_3 v_objInit k_objInit RoomL.m (Nat.le_of_ble_eq_true rfl) ?_
  first | refine x_aload_n d_SD_init_4 rfl rfl ?_ | refine x_aloadN_n d_SD_init_4 rfl rfl ?_ | refine x_aloadE_n d_SD_init_4 rfl rfl ?_ | refine x_aloadO_n d_SD_init_4 rfl rfl ?_
  refine Wq.bud (bc := 389 + 1) (bs := 11411 + 3) (by omega) (by omega) ?_
  refine x_newK (k := 1) (bc := 389) (bs := 11411) (by omega) d_SD_init_5 kc_Row cl_SD_9 ins_Row ini_Row (by decide +kernel) EvOK.m (fun Γ1 σ1 w1 aw1 zw1 => ?_)
  have hL := w1.len hL
  have hT := w1.sh hT
  have W := W.tr w1.any
  refine x_dup d_SD_init_8 rfl ?_
  refine x_bipush (v := 24) d_SD_init_9 (by decide) ?_
  refine Wq.bud (bc := 388 + 1) (bs := 11387 + 24) (by omega) (by omega) ?_
  refine x_callI1 (mc := 1) (ms := 24) (bc := 388) (bs := 11387) d_SD_init_11 k_Row_init rfl l_SD_11 v_Row_init rfl RoomE.m (Nat.le_of_ble_eq_true rfl) (c_Row_init (n := 24) aw1 hL (by omega) (fun Γ2 σ2 w2 pw2 => ?_))
  have aw1 := w2.sh aw1
  have hL := w2.len hL
  have hT := w2.sh hT
  have W := W.lateN w2 (by omega)
  first | refine x_putR d_SD_init_14 w_SD_init_14 rfl (by assumption) ?_ | refine x_putN d_SD_init_14 w_SD_init_14 rfl (by assumption) ?_ | refine x_putQ d_SD_init_14 w_SD_init_14 rfl (by assumption) ?_
  generalize ew3 : wR σ2 0 0 (some 1) = σ3
  have w3 : Nw Γ2 σ2 (Is 0) 0 Γ2 σ3 := by rw [← ew3]; exact Nw.wR
  have aw1 := w3.sh aw1
  have pw2 := pw2.nw w3 (by first | exact no0 | exact Is.no (by omega)) (by first | exact no0 | exact Is.no (by omega))
  have hL := w3.len hL
  have hT := w3.sh hT
  have W := W.tr w3
  have fw3 : σ3.2.1 0 0 = (some 1) := by rw [← ew3]; exact wR_s
  first | refine x_aload_n d_SD_init_17 rfl rfl ?_ | refine x_aloadN_n d_SD_init_17 rfl rfl ?_ | refine x_aloadE_n d_SD_init_17 rfl rfl ?_ | refine x_aloadO_n d_SD_init_17 rfl rfl ?_
  refine Wq.bud (bc := 387 + 1) (bs := 11384 + 3) (by omega) (by omega) ?_
  refine x_newK (k := 3) (bc := 387) (bs := 11384) (by omega) d_SD_init_18 kc_Row cl_SD_9 ins_Row ini_Row (by decide +kernel) EvOK.m (fun Γ4 σ4 w4 aw4 zw4 => ?_)
  have aw1 := w4.sh aw1
  have pw2 := pw2.nw w4 (by first | exact no0 | exact Is.no (by omega)) (by first | exact no0 | exact Is.no (by omega))
  have fw3 := w4.r (by omega) (by first | exact no0 | exact Is.no (by omega)) fw3
  have hL := w4.len hL
  have hT := w4.sh hT
  have W := W.tr w4.any
  refine x_dup d_SD_init_21 rfl ?_
  refine x_bipush (v := 24) d_SD_init_22 (by decide) ?_
  refine Wq.bud (bc := 386 + 1) (bs := 11360 + 24) (by omega) (by omega) ?_
  refine x_callI1 (mc := 1) (ms := 24) (bc := 386) (bs := 11360) d_SD_init_24 k_Row_init rfl l_SD_11 v_Row_init rfl RoomE.m (Nat.le_of_ble_eq_true rfl) (c_Row_init (n := 24) aw4 hL (by omega) (fun Γ5 σ5 w5 pw5 => ?_))
  have aw1 := w5.sh aw1
  have pw2 := pw2.nw w5 (by first | exact no0 | exact Is.no (by omega)) (by first | exact no0 | exact Is.no (by omega))
  have aw4 := w5.sh aw4
  have fw3 := w5.r (by omega) (by first | exact no0 | exact Is.no (by omega)) fw3
  have hL := w5.len hL
  have hT := w5.sh hT
  have W := W.lateN w5 (by omega)
  first | refine x_putR d_SD_init_27 w_SD_init_18 rfl (by assumption) ?_ | refine x_putN d_SD_init_27 w_SD_init_18 rfl (by assumption) ?_ | refine x_putQ d_SD_init_27 w_SD_init_18 rfl (by assumption) ?_
  generalize ew6 : wR σ5 0 1 (some 3) = σ6
  have w6 : Nw Γ5 σ5 (Is 0) 0 Γ5 σ6 := by rw [← ew6]; exact Nw.wR
  have aw1 := w6.sh aw1
  have pw2 := pw2.nw w6 (by first | exact no0 | exact Is.no (by omega)) (by first | exact no0 | exact Is.no (by omega))
  have aw4 := w6.sh aw4
  have pw5 := pw5.nw w6 (by first | exact no0 | exact Is.no (by omega)) (by first | exact no0 | exact Is.no (by omega))
  have fw3 : σ6.2.1 0 0 = (some 1) := by rw [← ew6, wR_j (by decide)]; exact fw3
  have hL := w6.len hL
  have hT := w6.sh hT
  have W := W.tr w6
  have fw6 : σ6.2.1 0 1 = (some 3) := by rw [← ew6]; exact wR_s
  first | refine x_aload_n d_SD_init_30 rfl rfl ?_ | refine x_aloadN_n d_SD_init_30 rfl rfl ?_ | refine x_aloadE_n d_SD_init_30 rfl rfl ?_ | refine x_aloadO_n d_SD_init_30 rfl rfl ?_
  refine x_bipush (v := 8) d_SD_init_31 (by decide) ?_
  refine Wq.bud (bc := 385 + 1) (bs := 11352 + 8) (by omega) (by omega) ?_
  refine x_anewK (k := 5) (t := 4) (N := 8) (bc := 385) (bs := 11352) (by omega) d_SD_init_33 cl_SD_9 rfl (by decide) ao_Row (by decide) (by decide) (by decide) EvOK.m (fun Γ7 σ7 w7 aw7 zw7 => ?_)
  have aw1 := w7.sh aw1
  have pw2 := pw2.nw w7 (by first | exact no0 | exact Is.no (by omega)) (by first | exact no0 | exact Is.no (by omega))
  have aw4 := w7.sh aw4
  have pw5 := pw5.nw w7 (by first | exact no0 | exact Is.no (by omega)) (by first | exact no0 | exact Is.no (by omega))
  have fw3 := w7.r (by omega) (by first | exact no0 | exact Is.no (by omega)) fw3
  have fw6 := w7.r (by omega) (by first | exact no0 | exact Is.no (by omega)) fw6
  have hL := w7.len hL
  have hT := w7.sh hT
  have W := W.tr w7.any
  first | refine x_putR d_SD_init_36 w_SD_init_21 rfl (by assumption) ?_ | refine x_putN d_SD_init_36 w_SD_init_21 rfl (by assumption) ?_ | refine x_putQ d_SD_init_36 w_SD_init_21 rfl (by assumption) ?_
  generalize ew8 : wR σ7 0 2 (some 5) = σ8
  have w8 : Nw Γ7 σ7 (Is 0) 0 Γ7 σ8 := by rw [← ew8]; exact Nw.wR
  have aw1 := w8.sh aw1
  have pw2 := pw2.nw w8 (by first | exact no0 | exact Is.no (by omega)) (by first | exact no0 | exact Is.no (by omega))
  have aw4 := w8.sh aw4
  have pw5 := pw5.nw w8 (by first | exact no0 | exact Is.no (by omega)) (by first | exact no0 | exact Is.no (by omega))
  have aw7 := w8.sh aw7
  have zw7 := zw7.nw w8 (by omega) (by first | exact no0 | exact Is.no (by omega))
  have fw3 : σ8.2.1 0 0 = (some 1) := by rw [← ew8, wR_j (by decide)]; exact fw3
  have fw6 : σ8.2.1 0 1 = (some 3) := by rw [← ew8, wR_j (by decide)]; exact fw6
  have hL := w8.len hL
  have hT := w8.sh hT
  have W := W.tr w8
  have fw8 : σ8.2.1 0 2 = (some 5) := by rw [← ew8]; exact wR_s
  refine x_iconst (v := 0) d_SD_init_39 (by decide) ?_
  refine x_istore_n d_SD_init_40 rfl rfl ?_
  exact Wq.fg (lp 8 0 _ _ (by omega) (by omega) hT aw7 ⟨fw8, fw3, fw6, pw2, pw5⟩ (fun u hu => absurd hu (Nat.not_lt_zero _)) W) ⟨rfl, by rw [nI_0], trivial⟩
