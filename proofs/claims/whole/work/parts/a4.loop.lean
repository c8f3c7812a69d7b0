/-! the law, whole -/
theorem sub4 {L i : Nat} (hL : L ≤ 2048) (hi : i ≤ 4096) : nI L - 4 < nI i ↔ L < i + 4 := by
  have e : (nI L - 4).toInt = (L : Int) - 4 := by
    rw [Int32.toInt_sub, nI_toInt (by omega)]
    have : (4 : Int32).toInt = 4 := by decide
    rw [this, Int.bmod_eq_of_le (by omega) (by omega)]
  rw [Int32.lt_iff_toInt_lt, e, nI_toInt (by omega)]
  omega
theorem and15 (s : Int32) : ∃ c, c < 16 ∧ s &&& 15 = nI c := by
  refine ⟨(s &&& 15).toBitVec.toNat, ?_, ?_⟩
  · rw [Int32.toBitVec_and, BitVec.toNat_and]
    exact Nat.lt_of_le_of_lt Nat.and_le_right (by decide)
  · apply Int32.toBitVec_inj.mp
    show _ = (Int32.ofNat _).toBitVec
    rw [Int32.toBitVec_ofNat', BitVec.ofNat_toNat, BitVec.setWidth_eq]
set_option maxRecDepth 10000 in
set_option maxHeartbeats 1000000 in
theorem law_loop {G : Ctx} {a L : Nat} {sc : Nat → Int32} (hS : Scr G a L sc) (hL : L ≤ 2048) : ∀ (r i K : Nat) (Γ : List Sh) (σ : Mem) (X : CS) (o5 o6 : Option Value), L < i + 4 * r + 4 → i ≤ 2100 → K + 1100 * r ≤ 600000 → JS Γ σ K X → Wq G M_Law_law (Elw G) r (6 * r) 23 [some (.ref a), some (rf G 0), some (rf G 391), some (rf G 426), some (.int (nI i)), o5, o6] [] [] Γ σ := by
  intro r
  induction r with
  | zero =>
    intro i K Γ σ X o5 o6 h hi hK hJ
    refine x_iload d_Law_law_23 rfl ?_
    refine x_aloadE_n d_Law_law_25 rfl rfl ?_
    refine x_sclen d_Law_law_26 hS ?_
    refine x_iconst (v := 4) d_Law_law_27 (by decide) ?_
    refine x_isub d_Law_law_28 ?_
    refine x_icmp_gt (tgt := 643) d_Law_law_29 (by decide) (fun c29 => ?_) (fun c29 => ?_)
    · refine x_iconst (v := 1) d_Law_law_643 (by decide) ?_
      exact x_lwret d_Law_law_644
    · exact absurd ((sub4 hL (by omega)).mpr (by omega)) c29
  | succ r ih =>
    intro i K Γ σ X o5 o6 h hi hK hJ
    refine x_iload d_Law_law_23 rfl ?_
    refine x_aloadE_n d_Law_law_25 rfl rfl ?_
    refine x_sclen d_Law_law_26 hS ?_
    refine x_iconst (v := 4) d_Law_law_27 (by decide) ?_
    refine x_isub d_Law_law_28 ?_
    refine x_icmp_gt (tgt := 643) d_Law_law_29 (by decide) (fun c29 => ?_) (fun c29 => ?_)
    · refine x_iconst (v := 1) d_Law_law_643 (by decide) ?_
      exact x_lwret d_Law_law_644

    · have h4 : i + 4 ≤ L := Nat.not_lt.mp fun z => c29 ((sub4 hL (by omega)).mpr z)
      have hnext : ∀ Γ' σ' X' o5' o6', JS Γ' σ' (K + 1100) X' → Wq G M_Law_law (Elw G) r (6 * r) 637 [some (.ref a), some (rf G 0), some (rf G 391), some (rf G 426), some (.int (nI i)), o5', o6'] [] [] Γ' σ' := fun Γ' σ' X' o5' o6' hJ' => by
        refine x_iinc (v := nI (i + 4)) d_Law_law_637 rfl (nI_add i 4) rfl ?_
        refine x_goto (tgt := 23) d_Law_law_640 (by decide) ?_
        exact Wq.fg (ih (i + 4) (K + 1100) Γ' σ' X' o5' o6' (by omega) (by omega) (by omega) hJ') lsub_rf
      refine x_aloadE_n d_Law_law_32 rfl rfl ?_
      refine x_iload d_Law_law_33 rfl ?_
      refine x_scld d_Law_law_35 hS (show i < L by omega) (by omega) ?_
      refine x_bipush (v := 15) d_Law_law_36 (by decide) ?_
      refine x_iand d_Law_law_38 ?_
      obtain ⟨c, hc, ec⟩ := and15 (sc i)
      rw [ec]
      clear ec
      refine Wq.bud (bc := r + 1) (bs := 6 * r + 6) (by omega) (by omega) ?_
      match c, hc with
      | 0, _ => exact x_tblIn (tgt := 108) (off := 69) d_Law_law_39 (by decide) (by decide) (by decide +kernel) (by decide) (lc_type hS h4 (by omega) hJ (by omega) hnext)
      | 1, _ => exact x_tblIn (tgt := 165) (off := 126) d_Law_law_39 (by decide) (by decide) (by decide +kernel) (by decide) (lc_wipe hS h4 (by omega) hJ (by omega) hnext)
      | 2, _ => exact x_tblIn (tgt := 176) (off := 137) d_Law_law_39 (by decide) (by decide) (by decide +kernel) (by decide) (lc_forget hS h4 (by omega) hJ (by omega) hnext)
      | 3, _ => exact x_tblIn (tgt := 187) (off := 148) d_Law_law_39 (by decide) (by decide) (by decide +kernel) (by decide) (lc_function hS h4 (by omega) hJ (by omega) hnext)
      | 4, _ => exact x_tblIn (tgt := 263) (off := 224) d_Law_law_39 (by decide) (by decide) (by decide +kernel) (by decide) (lc_body hS h4 (by omega) hJ (by omega) hnext)
      | 5, _ => exact x_tblIn (tgt := 311) (off := 272) d_Law_law_39 (by decide) (by decide) (by decide +kernel) (by decide) (lc_goal hS h4 (by omega) hJ (by omega) hnext)
      | 6, _ => exact x_tblIn (tgt := 335) (off := 296) d_Law_law_39 (by decide) (by decide) (by decide +kernel) (by decide) (lc_input hS h4 (by omega) hJ (by omega) hnext)
      | 7, _ => exact x_tblIn (tgt := 360) (off := 321) d_Law_law_39 (by decide) (by decide) (by decide +kernel) (by decide) (lc_drive hS h4 (by omega) hJ (by omega) hnext)
      | 8, _ => exact x_tblIn (tgt := 404) (off := 365) d_Law_law_39 (by decide) (by decide) (by decide +kernel) (by decide) (lc_node hS h4 (by omega) hJ (by omega) hnext)
      | 9, _ => exact x_tblIn (tgt := 441) (off := 402) d_Law_law_39 (by decide) (by decide) (by decide +kernel) (by decide) (lc_term hS h4 (by omega) hJ (by omega) hnext)
      | 10, _ => exact x_tblIn (tgt := 478) (off := 439) d_Law_law_39 (by decide) (by decide) (by decide +kernel) (by decide) (lc_residual hS h4 (by omega) hJ (by omega) hnext)
      | 11, _ => exact x_tblIn (tgt := 515) (off := 476) d_Law_law_39 (by decide) (by decide) (by decide +kernel) (by decide) (lc_run hS h4 (by omega) hJ (by omega) hnext)
      | 12, _ => exact x_tblIn (tgt := 599) (off := 560) d_Law_law_39 (by decide) (by decide) (by decide +kernel) (by decide) (lc_result hS h4 (by omega) hJ (by omega) hnext)
      | 13, _ => exact x_tblIn (tgt := 624) (off := 585) d_Law_law_39 (by decide) (by decide) (by decide +kernel) (by decide) (lc_steps hS h4 (by omega) hJ (by omega) hnext)
      | 14, _ => exact x_tblOut (tgt := 637) d_Law_law_39 (Or.inr (by decide)) (by decide) (Wq.bud (bc := r) (bs := 6 * r) (by omega) (by omega) (hnext _ _ _ _ _ (hJ.mK (by omega))))
      | 15, _ => exact x_tblOut (tgt := 637) d_Law_law_39 (Or.inr (by decide)) (by decide) (Wq.bud (bc := r) (bs := 6 * r) (by omega) (by omega) (hnext _ _ _ _ _ (hJ.mK (by omega))))
      | c + 16, hc => exact absurd hc (by omega)
set_option maxRecDepth 10000 in
set_option maxHeartbeats 1000000 in
theorem law_all {G : Ctx} {a L : Nat} {sc : Nat → Int32} {σ : Mem} (hS : Scr G a L sc) (hL : L ≤ 2048) : Wq G M_Law_law (Elw G) 601024 7293034 0 [some (.ref a), none, none, none, none, none, none] [] [] [] σ := by
  refine Wq.bud (bc := 938 + 1) (bs := 68534 + 9) (by omega) (by omega) ?_
  refine x_newK (k := 0) (bc := 938) (bs := 68534) rfl d_Law_law_0 kc_SD cl_Law_8 ins_SD ini_SD (by decide +kernel) EvOK.l (fun Γ1 σ1 w1 a1 z1 => ?_)
  have l1 : Γ1.length = 1 := w1.2.1
  refine x_dup d_Law_law_3 rfl ?_
  refine x_callI0 (mc := 390) (ms := 11414) (bc := 548) (bs := 57120) d_Law_law_4 k_SD_init rfl l_Law_34 v_SD_init rfl RoomE.l (Nat.le_of_ble_eq_true rfl) (c_SD_init a1 l1 (fun Γ2 σ2 w2 p2 => ?_))
  have l2 : Γ2.length = 391 := by rw [w2.2.1, l1]
  refine x_astore_n d_Law_law_7 rfl rfl ?_
  refine Wq.bud (bc := 547 + 1) (bs := 57073 + 47) (by omega) (by omega) ?_
  refine x_newK (k := 391) (bc := 547) (bs := 57073) l2 d_Law_law_8 kc_Mo cl_Law_35 ins_Mo ini_Mo (by decide +kernel) EvOK.l (fun Γ3 σ3 w3 a3 z3 => ?_)
  have l3 : Γ3.length = 392 := by rw [w3.2.1, l2]
  refine x_dup d_Law_law_11 rfl ?_
  refine x_callI0 (mc := 34) (ms := 54000) (bc := 513) (bs := 3073) d_Law_law_12 k_Mo_init rfl l_Law_37 v_Mo_init rfl RoomE.l (Nat.le_of_ble_eq_true rfl) (c_Mo_init a3 l3 z3 (fun Γ4 σ4 w4 p4 => ?_))
  have l4 : Γ4.length = 426 := by rw [w4.2.1, l3]
  refine x_astore_n d_Law_law_15 rfl rfl ?_
  refine x_iconst (v := 1) d_Law_law_16 (by decide) ?_
  refine Wq.bud (bc := 512 + 1) (bs := 3072 + 1) (by omega) (by omega) ?_
  refine x_newaK (k := 426) (t := 3) (N := 1) (bc := 512) (bs := 3072) l4 d_Law_law_17 rfl (by decide) ac_long (by decide) (by decide) (by decide) EvOK.l (fun Γ5 σ5 w5 a5 z5 => ?_)
  refine x_astore_n d_Law_law_19 rfl rfl ?_
  refine x_iconst (v := 0) d_Law_law_20 (by decide) ?_
  refine x_istore d_Law_law_21 rfl ?_
  have q3 : isCS Γ3 σ3 0 X0 := (p2.P w3.2.2 (fun a h z => z.elim (fun y => by omega) (fun y => y))).up w3.1
  have q4 : isCS Γ4 σ4 0 X0 := (q3.P w4.2.2 (fun a h z => z.elim (fun y => by omega) (fun y => by have : a = 391 := y; omega))).up w4.1
  have q5 : isCS Γ5 σ5 0 X0 := (q4.P w5.2.2 (fun a h z => z.elim (fun y => by omega) (fun y => y))).up w5.1
  have m5 : MJ Γ5 σ5 X0 := (p4.P w5.2.2 (fun a h1 h2 z => z.elim (fun y => by omega) (fun y => y))).up w5.1
  exact Wq.fg (law_loop hS hL 512 0 0 Γ5 σ5 X0 none none (by omega) (by omega) (by omega) ⟨q5, m5, a5⟩) ⟨rfl, rfl, rfl, rfl, by rw [nI_0], trivial⟩
