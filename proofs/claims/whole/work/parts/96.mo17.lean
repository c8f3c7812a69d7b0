/-! SuperDriverModel: bodyOf and unfold for the source program -/
theorem uc_c {pt : Nat → Int32} {cs : Nat → Bool} {zs : List Int32} {a c : Nat} (hS : SgOK pt cs) (hcs : sgC cs (zs.getD a (-1)) = true) (hc : c < 6) (e : caf cs zs a = nI c) : ucN pt cs zs a = qK c + nP (sgP pt) (zs.getD a (-1)) - 1 ∧ up0 cs zs a = a + 2 := by
  have hne : ¬ caf cs zs a = -1 := by rw [e]; exact nI_nm1 (by omega)
  have hp := hS.1.le (zs.getD a (-1))
  have h1 := hS.2 _ hcs
  have q := qK_nat c
  refine ⟨?_, by rw [up0, if_neg hne]⟩
  rw [ucN, ucI, if_neg hne, e, q.2, hp.2, nI_ap1 h1, nI_clamp (by omega)]
  omega
theorem uc_p {pt : Nat → Int32} {cs : Nat → Bool} {zs : List Int32} {a : Nat} (e : caf cs zs a = -1) : ucN pt cs zs a = nP (sgP pt) (zs.getD a (-1)) ∧ up0 cs zs a = a + 1 := by
  refine ⟨?_, by rw [up0, if_pos e]⟩
  rw [ucN, ucI, if_pos e]; rfl
/-- a call of a source function at a, the next one -/
def cSr (σ : Mem) (X : CS) (zs : List Int32) (a f : Nat) : Prop := rwO σ (kP X) (kC X) zs ∧ a < zs.length ∧ f < 8 ∧ zs.getD a (-1) = nI (200 + f) ∧ kP X (200 + f) ≠ 0 ∧ σ.1 394 f = bI (kC X (200 + f)) ∧ (kC X (200 + f) = true → ∃ k1, a + 1 < zs.length ∧ zs.getD (a + 1) (-1) = nI k1 ∧ k1 < 106) ∧ mBd σ X ∧ SW (kP X) (kC X) ∧ BdW (kP X) (kC X) (kB X)
theorem cSr.fr {σ σ' : Mem} {X : CS} {zs : List Int32} {a f : Nat} {S : List Nat} (h : cSr σ X zs a f) (hf : FrI S σ σ') (h1 : 393 ∉ S) (h2 : 412 ∉ S) (h3 : 394 ∉ S) (h4 : 400 ∉ S) (h5 : 391 ∉ S) (h6 : 415 ∉ S) (h7 : 395 ∉ S) (h8 : 396 ∉ S) : cSr σ' X zs a f := by
  obtain ⟨a1, a2, a3, a4, a5, a6, a7, a8, a9, a10⟩ := h
  exact ⟨a1.fr hf h1 h2 h3 h4 h5 h6, a2, a3, a4, a5, by rw [hf.2 _ h3]; exact a6, a7, fun f c hf' hc => ⟨by rw [hf.2 _ h8]; exact (a8 f c hf' hc).1, (a8 f c hf' hc).2.fr hf h7⟩, a9, a10⟩
theorem uF_c {X : CS} {zs : List Int32} {a f c : Nat} (hf : f < 8) (ek : zs.getD a (-1) = nI (200 + f)) (hp : kP X (200 + f) ≠ 0) (hcs : kC X (200 + f) = true) (hc : c < 6) (e1 : zs.getD (a + 1) (-1) = nI (100 + c)) : caf (kC X) zs a = nI c ∧ uF (kC X) (kB X) zs a = decide (mb X f c ≠ []) ∧ (mb X f c ≠ [] → mb X f c = sBd (kB X) (zs.getD a (-1)) (caf (kC X) zs a)) := by
  have hsg : sgC (kC X) (zs.getD a (-1)) = true := by rw [ek, sgC_n (by omega)]; exact hcs
  have ecaf : caf (kC X) zs a = nI c := by
    unfold caf
    rw [hsg, e1, isK_n (by omega), decide_eq_true (show 100 ≤ 100 + c ∧ 100 + c < 106 by omega)]
    show nI (100 + c) - 100 = nI c
    rw [show (100 : Int32) = nI 100 from rfl, nI_sub (by omega), Nat.add_sub_cancel_left]
  have hmb : mb X f c = kB X (6 * f + c) := by unfold mb; rw [if_neg hp, if_pos hcs, if_pos hc]
  have hne : ¬ caf (kC X) zs a = -1 := by rw [ecaf]; exact nI_nm1 (by omega)
  have hsB : sB (kB X) (zs.getD a (-1)) (caf (kC X) zs a) = if (kB X (6 * f + c)).length = 0 then none else some (6 * f + c) := by
    rw [ecaf, ek, sB, (plc_n hf).2 c hc]
  refine ⟨ecaf, ?_, fun h => ?_⟩
  · unfold uF ufs
    rw [if_pos hsg, if_neg hne]
    show ((sB (kB X) (zs.getD a (-1)) (caf (kC X) zs a)).map _).isSome = _
    rw [hsB, hmb]
    by_cases z : kB X (6 * f + c) = []
    · rw [z]; rfl
    · rw [if_neg (fun y => z (List.eq_nil_of_length_eq_zero y)), decide_eq_true z]; rfl
  · rw [hmb] at h ⊢
    unfold sBd
    rw [hsB, if_neg (fun y => h (List.eq_nil_of_length_eq_zero y))]
theorem uF_p {X : CS} {zs : List Int32} {a f : Nat} (hf : f < 8) (ek : zs.getD a (-1) = nI (200 + f)) (hp : kP X (200 + f) ≠ 0) (hcs : kC X (200 + f) = false) : caf (kC X) zs a = -1 ∧ uF (kC X) (kB X) zs a = decide (mb X f 6 ≠ []) ∧ (mb X f 6 ≠ [] → mb X f 6 = sBd (kB X) (zs.getD a (-1)) (caf (kC X) zs a)) := by
  have hsg : sgC (kC X) (zs.getD a (-1)) = false := by rw [ek, sgC_n (by omega)]; exact hcs
  have ecaf : caf (kC X) zs a = -1 := by
    unfold caf
    rw [hsg, Bool.false_and, if_neg (by decide)]
  have hmb : mb X f 6 = kB X (6 * f) := by unfold mb; rw [if_neg hp, if_neg (by rw [hcs]; decide), if_pos rfl]
  have hsB : sB (kB X) (zs.getD a (-1)) (caf (kC X) zs a) = if (kB X (6 * f)).length = 0 then none else some (6 * f) := by
    rw [ecaf, ek, sB, (plc_n hf).1]
  refine ⟨ecaf, ?_, fun h => ?_⟩
  · unfold uF ufs
    rw [if_neg (by rw [hsg]; decide)]
    show ((sB (kB X) (zs.getD a (-1)) (caf (kC X) zs a)).map _).isSome = _
    rw [hsB, hmb]
    by_cases z : kB X (6 * f) = []
    · rw [z]; rfl
    · rw [if_neg (fun y => z (List.eq_nil_of_length_eq_zero y)), decide_eq_true z]; rfl
  · rw [hmb] at h ⊢
    unfold sBd
    rw [hsB, if_neg (fun y => h (List.eq_nil_of_length_eq_zero y))]
theorem uF_v {X : CS} {zs : List Int32} {a f k1 : Nat} (ek : zs.getD a (-1) = nI (200 + f)) (hf : f < 8) (hcs : kC X (200 + f) = true) (hk : k1 < 100) (e1 : zs.getD (a + 1) (-1) = nI k1) : uF (kC X) (kB X) zs a = false := by
  have hsg : sgC (kC X) (zs.getD a (-1)) = true := by rw [ek, sgC_n (by omega)]; exact hcs
  have ecaf : caf (kC X) zs a = -1 := by
    unfold caf
    rw [e1, isK_n (by omega), decide_eq_false (show ¬ (100 ≤ k1 ∧ k1 < 106) by omega), Bool.and_false, if_neg (by decide)]
  unfold uF ufs
  rw [if_pos hsg, if_pos ecaf]
set_option maxRecDepth 10000 in
set_option maxHeartbeats 1000000 in
theorem c_Mo_bodyOf_s {G : Ctx} {d : Nat} {Γ : List Sh} {σ : Mem} {Q : Option Value → List Sh → Mem → Prop} {X : CS} {zs : List Int32} {a f : Nat} (hM : MoS Γ σ) (hC : cSr σ X zs a f) (hQ1 : uF (kC X) (kB X) zs a = false → Q (some (.int (-1))) Γ σ) (hQ2 : uF (kC X) (kB X) zs a = true → ∀ c, c < 7 → mb X f c = sBd (kB X) (zs.getD a (-1)) (caf (kC X) zs a) → mb X f c ≠ [] → Q (some (.int (nI (7 * f + c)))) Γ σ) : Ct G M_Mo_bodyOf (d + 1) 0 0 [rf G 391, .int (nI a)] Γ σ Q := by
  obtain ⟨hR, ha, hf, ek, hp0, h394, hnx, hMB, hSw, hBw⟩ := id hC
  have hzl := hR.2.2.1
  refine Ct.of (lv := [some (rf G 391), some (.int (nI a)), none, none, none]) (ll := []) rfl rfl (EN.cat (n := 3) ⟨rfl, rfl, trivial⟩ (Nat.le_of_ble_eq_true rfl)) ?_
  first | refine x_aload_n d_Mo_bodyOf_0 rfl rfl ?_ | refine x_aloadN_n d_Mo_bodyOf_0 rfl rfl ?_ | refine x_aloadE_n d_Mo_bodyOf_0 rfl rfl ?_ | refine x_aloadO_n d_Mo_bodyOf_0 rfl rfl ?_
  refine x_getR d_Mo_bodyOf_1 f_Mo_80 rfl (by first | exact hM.1 | exact hM.s rfl | assumption) (hM.r rfl) ?_
  refine x_iload_n d_Mo_bodyOf_4 rfl rfl ?_
  refine x_iald d_Mo_bodyOf_5 (by first | exact hM.1 | exact hM.s rfl | assumption) (vp_in_nI (show a < 20400 by omega) (by decide)) ?_
  rw [nI_clamp (by omega), show σ.1 415 a = zs.getD a (-1) by have := hR.2.1 a ha; rw [Nat.zero_add] at this; exact this, ek]
  refine x_istore_n d_Mo_bodyOf_6 rfl rfl ?_
  refine x_iload_n d_Mo_bodyOf_7 rfl rfl ?_
  refine x_sipush (v := 400) d_Mo_bodyOf_8 (by decide) ?_
  refine x_icmp_ne (tgt := 16) d_Mo_bodyOf_11 (by decide) (fun c11 => ?_) (fun c11 => ?_)
  · refine x_iload_n d_Mo_bodyOf_16 rfl rfl ?_
    refine x_sipush (v := 300) d_Mo_bodyOf_17 (by decide) ?_
    refine x_icmp_ge (tgt := 87) d_Mo_bodyOf_20 (by decide) (fun c20 => ?_) (fun c20 => ?_)
    · exact absurd ((nI_leI (by decide) (by omega)).mp (show nI 300 ≤ nI (200 + f) from c20)) (by omega)
    · first | refine x_aload_n d_Mo_bodyOf_23 rfl rfl ?_ | refine x_aloadN_n d_Mo_bodyOf_23 rfl rfl ?_ | refine x_aloadE_n d_Mo_bodyOf_23 rfl rfl ?_ | refine x_aloadO_n d_Mo_bodyOf_23 rfl rfl ?_
      refine x_iload_n d_Mo_bodyOf_24 rfl rfl ?_
      refine x_callV1 d_Mo_bodyOf_25 k_Mo_isCased l_Mo_160 v_Mo_isCased rfl s_Mo_isCased (by first | exact hM.1 | exact hM.s rfl | assumption) RoomE.m (Nat.le_of_ble_eq_true rfl) (c_Mo_isCased (cs := kC X) hM (Or.inl ⟨by omega, by omega, by rw [Nat.add_sub_cancel_left]; exact h394⟩) ?_)
      refine x_if_eq (tgt := 45) d_Mo_bodyOf_28 (by decide) (fun c28 => ?_) (fun c28 => ?_)
      · refine x_bipush (v := 6) d_Mo_bodyOf_45 (by decide) ?_
        first
        | (by_cases hk100 : k1 < 100
           · have hu1 := uF_v (X := X) ek hf (bI_n0 c28) hk100 ek1
             refine x_istore_n d_Mo_bodyOf_47 rfl rfl ?_
             refine x_bipush (v := 7) d_Mo_bodyOf_48 (by decide) ?_
             refine x_iload_n d_Mo_bodyOf_50 rfl rfl ?_
             refine x_sipush (v := 200) d_Mo_bodyOf_51 (by decide) ?_
             refine x_isub d_Mo_bodyOf_54 ?_
             rw [nI_sub200 (by omega), Nat.add_sub_cancel_left]
             refine x_imul d_Mo_bodyOf_55 ?_
             refine x_iload_n d_Mo_bodyOf_56 rfl rfl ?_
             refine x_iadd d_Mo_bodyOf_57 ?_
             refine x_istore d_Mo_bodyOf_58 rfl ?_
             refine x_iload_n d_Mo_bodyOf_60 rfl rfl ?_
             refine x_if_lt (tgt := 85) d_Mo_bodyOf_61 (by decide) (fun c61 => ?_) (fun c61 => ?_)
             · refine x_iconst (v := -1) d_Mo_bodyOf_85 (by decide) ?_
               exact x_ireturn d_Mo_bodyOf_86 rfl (by first | rfl | decide) (hQ1 hu1)
             · exact absurd (by
                 apply Int32.lt_iff_toInt_lt.mpr
                 rw [Int32.toInt_sub, nI_toInt (by omega)]
                 have q1 : (100 : Int32).toInt = 100 := by decide
                 have q0 : (0 : Int32).toInt = 0 := by decide
                 rw [q1, q0, Int.bmod_eq_of_le (by omega) (by omega)]
                 omega) c61
           · obtain ⟨c, rfl⟩ : ∃ c, k1 = 100 + c := ⟨k1 - 100, by omega⟩
             obtain ⟨hu1, hu2, hu3⟩ := uF_c (X := X) hf ek hp0 (bI_n0 c28) (by omega) ek1
             rw [nI_sub100 (by omega), Nat.add_sub_cancel_left]
             refine x_istore_n d_Mo_bodyOf_47 rfl rfl ?_
             refine x_bipush (v := 7) d_Mo_bodyOf_48 (by decide) ?_
             refine x_iload_n d_Mo_bodyOf_50 rfl rfl ?_
             refine x_sipush (v := 200) d_Mo_bodyOf_51 (by decide) ?_
             refine x_isub d_Mo_bodyOf_54 ?_
             rw [nI_sub200 (by omega), Nat.add_sub_cancel_left]
             refine x_imul d_Mo_bodyOf_55 ?_
             rw [mul7]
             refine x_iload_n d_Mo_bodyOf_56 rfl rfl ?_
             refine x_iadd d_Mo_bodyOf_57 ?_
             rw [nI_add]
             refine x_istore d_Mo_bodyOf_58 rfl ?_
             refine x_iload_n d_Mo_bodyOf_60 rfl rfl ?_
             refine x_if_lt (tgt := 85) d_Mo_bodyOf_61 (by decide) (fun c61 => ?_) (fun c61 => ?_)
             · exact absurd c61 (nI_pos (by omega))
             · refine x_iload_n d_Mo_bodyOf_64 rfl rfl ?_
               refine x_bipush (v := 6) d_Mo_bodyOf_65 (by decide) ?_
               refine x_icmp_gt (tgt := 85) d_Mo_bodyOf_67 (by decide) (fun c67 => ?_) (fun c67 => ?_)
               · exact absurd c67 (show ¬ nI 6 < nI (c) from nI_nlt (by omega) (by omega))
               · first | refine x_aload_n d_Mo_bodyOf_70 rfl rfl ?_ | refine x_aloadN_n d_Mo_bodyOf_70 rfl rfl ?_ | refine x_aloadE_n d_Mo_bodyOf_70 rfl rfl ?_ | refine x_aloadO_n d_Mo_bodyOf_70 rfl rfl ?_
                 refine x_getR d_Mo_bodyOf_71 f_Mo_23 rfl (by first | exact hM.1 | exact hM.s rfl | assumption) (hM.r rfl) ?_
                 refine x_iload d_Mo_bodyOf_74 rfl ?_
                 refine x_iald d_Mo_bodyOf_76 (by first | exact hM.1 | exact hM.s rfl | assumption) (vp_in_nI (show 7 * f + c < 56 by omega) (by decide)) ?_
                 rw [nI_clamp (by omega), (hMB f (c) hf (by omega)).1]
                 refine x_if_le (tgt := 85) d_Mo_bodyOf_77 (by decide) (fun c77 => ?_) (fun c77 => ?_)
                 · refine x_iconst (v := -1) d_Mo_bodyOf_85 (by decide) ?_
                   exact x_ireturn d_Mo_bodyOf_86 rfl (by first | rfl | decide) (hQ1 (by
                     rw [hu2]
                     exact decide_eq_false (fun z => z (List.eq_nil_of_length_eq_zero (Nat.eq_zero_of_not_pos fun y => nI_nle y (by have := mb_len (d := c) hBw hf; omega) c77)))))
                 · refine x_iload d_Mo_bodyOf_80 rfl ?_
                   refine x_goto (tgt := 86) d_Mo_bodyOf_82 (by decide) ?_
                   exact x_ireturn d_Mo_bodyOf_86 rfl (by first | rfl | decide) (by
                     have hne : mb X f (c) ≠ [] := fun z => c77 (by rw [z]; decide)
                     exact hQ2 (by rw [hu2]; exact decide_eq_true hne) (c) (by omega) (hu3 hne) hne))
        | (obtain ⟨hu1, hu2, hu3⟩ := uF_p (X := X) hf ek hp0 (bI_0 c28)
           rw [show (6 : Int32) = nI 6 from rfl]
           refine x_istore_n d_Mo_bodyOf_47 rfl rfl ?_
           refine x_bipush (v := 7) d_Mo_bodyOf_48 (by decide) ?_
           refine x_iload_n d_Mo_bodyOf_50 rfl rfl ?_
           refine x_sipush (v := 200) d_Mo_bodyOf_51 (by decide) ?_
           refine x_isub d_Mo_bodyOf_54 ?_
           rw [nI_sub200 (by omega), Nat.add_sub_cancel_left]
           refine x_imul d_Mo_bodyOf_55 ?_
           rw [mul7]
           refine x_iload_n d_Mo_bodyOf_56 rfl rfl ?_
           refine x_iadd d_Mo_bodyOf_57 ?_
           rw [nI_add]
           refine x_istore d_Mo_bodyOf_58 rfl ?_
           refine x_iload_n d_Mo_bodyOf_60 rfl rfl ?_
           refine x_if_lt (tgt := 85) d_Mo_bodyOf_61 (by decide) (fun c61 => ?_) (fun c61 => ?_)
           · exact absurd c61 (nI_pos (by omega))
           · refine x_iload_n d_Mo_bodyOf_64 rfl rfl ?_
             refine x_bipush (v := 6) d_Mo_bodyOf_65 (by decide) ?_
             refine x_icmp_gt (tgt := 85) d_Mo_bodyOf_67 (by decide) (fun c67 => ?_) (fun c67 => ?_)
             · exact absurd c67 (show ¬ nI 6 < nI (6) from nI_nlt (by omega) (by omega))
             · first | refine x_aload_n d_Mo_bodyOf_70 rfl rfl ?_ | refine x_aloadN_n d_Mo_bodyOf_70 rfl rfl ?_ | refine x_aloadE_n d_Mo_bodyOf_70 rfl rfl ?_ | refine x_aloadO_n d_Mo_bodyOf_70 rfl rfl ?_
               refine x_getR d_Mo_bodyOf_71 f_Mo_23 rfl (by first | exact hM.1 | exact hM.s rfl | assumption) (hM.r rfl) ?_
               refine x_iload d_Mo_bodyOf_74 rfl ?_
               refine x_iald d_Mo_bodyOf_76 (by first | exact hM.1 | exact hM.s rfl | assumption) (vp_in_nI (show 7 * f + 6 < 56 by omega) (by decide)) ?_
               rw [nI_clamp (by omega), (hMB f (6) hf (by omega)).1]
               refine x_if_le (tgt := 85) d_Mo_bodyOf_77 (by decide) (fun c77 => ?_) (fun c77 => ?_)
               · refine x_iconst (v := -1) d_Mo_bodyOf_85 (by decide) ?_
                 exact x_ireturn d_Mo_bodyOf_86 rfl (by first | rfl | decide) (hQ1 (by
                   rw [hu2]
                   exact decide_eq_false (fun z => z (List.eq_nil_of_length_eq_zero (Nat.eq_zero_of_not_pos fun y => nI_nle y (by have := mb_len (d := 6) hBw hf; omega) c77)))))
               · refine x_iload d_Mo_bodyOf_80 rfl ?_
                 refine x_goto (tgt := 86) d_Mo_bodyOf_82 (by decide) ?_
                 exact x_ireturn d_Mo_bodyOf_86 rfl (by first | rfl | decide) (by
                   have hne : mb X f (6) ≠ [] := fun z => c77 (by rw [z]; decide)
                   exact hQ2 (by rw [hu2]; exact decide_eq_true hne) (6) (by omega) (hu3 hne) hne))
      · obtain ⟨k1, ha1, ek1, hk106⟩ := hnx (bI_n0 c28)
        first | refine x_aload_n d_Mo_bodyOf_31 rfl rfl ?_ | refine x_aloadN_n d_Mo_bodyOf_31 rfl rfl ?_ | refine x_aloadE_n d_Mo_bodyOf_31 rfl rfl ?_ | refine x_aloadO_n d_Mo_bodyOf_31 rfl rfl ?_
        refine x_getR d_Mo_bodyOf_32 f_Mo_80 rfl (by first | exact hM.1 | exact hM.s rfl | assumption) (hM.r rfl) ?_
        refine x_iload_n d_Mo_bodyOf_35 rfl rfl ?_
        refine x_iconst (v := 1) d_Mo_bodyOf_36 (by decide) ?_
        refine x_iadd d_Mo_bodyOf_37 ?_
        rw [nI_1]
        refine x_iald d_Mo_bodyOf_38 (by first | exact hM.1 | exact hM.s rfl | assumption) (vp_in_nI (show a + 1 < 20400 by omega) (by decide)) ?_
        rw [nI_clamp (by omega), show σ.1 415 (a + 1) = zs.getD (a + 1) (-1) by have := hR.2.1 (a + 1) ha1; rw [Nat.zero_add] at this; exact this, ek1]
        refine x_bipush (v := 100) d_Mo_bodyOf_39 (by decide) ?_
        refine x_isub d_Mo_bodyOf_41 ?_
        refine x_goto (tgt := 47) d_Mo_bodyOf_42 (by decide) ?_
        first
        | (by_cases hk100 : k1 < 100
           · have hu1 := uF_v (X := X) ek hf (bI_n0 c28) hk100 ek1
             refine x_istore_n d_Mo_bodyOf_47 rfl rfl ?_
             refine x_bipush (v := 7) d_Mo_bodyOf_48 (by decide) ?_
             refine x_iload_n d_Mo_bodyOf_50 rfl rfl ?_
             refine x_sipush (v := 200) d_Mo_bodyOf_51 (by decide) ?_
             refine x_isub d_Mo_bodyOf_54 ?_
             rw [nI_sub200 (by omega), Nat.add_sub_cancel_left]
             refine x_imul d_Mo_bodyOf_55 ?_
             refine x_iload_n d_Mo_bodyOf_56 rfl rfl ?_
             refine x_iadd d_Mo_bodyOf_57 ?_
             refine x_istore d_Mo_bodyOf_58 rfl ?_
             refine x_iload_n d_Mo_bodyOf_60 rfl rfl ?_
             refine x_if_lt (tgt := 85) d_Mo_bodyOf_61 (by decide) (fun c61 => ?_) (fun c61 => ?_)
             · refine x_iconst (v := -1) d_Mo_bodyOf_85 (by decide) ?_
               exact x_ireturn d_Mo_bodyOf_86 rfl (by first | rfl | decide) (hQ1 hu1)
             · exact absurd (by
                 apply Int32.lt_iff_toInt_lt.mpr
                 rw [Int32.toInt_sub, nI_toInt (by omega)]
                 have q1 : (100 : Int32).toInt = 100 := by decide
                 have q0 : (0 : Int32).toInt = 0 := by decide
                 rw [q1, q0, Int.bmod_eq_of_le (by omega) (by omega)]
                 omega) c61
           · obtain ⟨c, rfl⟩ : ∃ c, k1 = 100 + c := ⟨k1 - 100, by omega⟩
             obtain ⟨hu1, hu2, hu3⟩ := uF_c (X := X) hf ek hp0 (bI_n0 c28) (by omega) ek1
             rw [nI_sub100 (by omega), Nat.add_sub_cancel_left]
             refine x_istore_n d_Mo_bodyOf_47 rfl rfl ?_
             refine x_bipush (v := 7) d_Mo_bodyOf_48 (by decide) ?_
             refine x_iload_n d_Mo_bodyOf_50 rfl rfl ?_
             refine x_sipush (v := 200) d_Mo_bodyOf_51 (by decide) ?_
             refine x_isub d_Mo_bodyOf_54 ?_
             rw [nI_sub200 (by omega), Nat.add_sub_cancel_left]
             refine x_imul d_Mo_bodyOf_55 ?_
             rw [mul7]
             refine x_iload_n d_Mo_bodyOf_56 rfl rfl ?_
             refine x_iadd d_Mo_bodyOf_57 ?_
             rw [nI_add]
             refine x_istore d_Mo_bodyOf_58 rfl ?_
             refine x_iload_n d_Mo_bodyOf_60 rfl rfl ?_
             refine x_if_lt (tgt := 85) d_Mo_bodyOf_61 (by decide) (fun c61 => ?_) (fun c61 => ?_)
             · exact absurd c61 (nI_pos (by omega))
             · refine x_iload_n d_Mo_bodyOf_64 rfl rfl ?_
               refine x_bipush (v := 6) d_Mo_bodyOf_65 (by decide) ?_
               refine x_icmp_gt (tgt := 85) d_Mo_bodyOf_67 (by decide) (fun c67 => ?_) (fun c67 => ?_)
               · exact absurd c67 (show ¬ nI 6 < nI (c) from nI_nlt (by omega) (by omega))
               · first | refine x_aload_n d_Mo_bodyOf_70 rfl rfl ?_ | refine x_aloadN_n d_Mo_bodyOf_70 rfl rfl ?_ | refine x_aloadE_n d_Mo_bodyOf_70 rfl rfl ?_ | refine x_aloadO_n d_Mo_bodyOf_70 rfl rfl ?_
                 refine x_getR d_Mo_bodyOf_71 f_Mo_23 rfl (by first | exact hM.1 | exact hM.s rfl | assumption) (hM.r rfl) ?_
                 refine x_iload d_Mo_bodyOf_74 rfl ?_
                 refine x_iald d_Mo_bodyOf_76 (by first | exact hM.1 | exact hM.s rfl | assumption) (vp_in_nI (show 7 * f + c < 56 by omega) (by decide)) ?_
                 rw [nI_clamp (by omega), (hMB f (c) hf (by omega)).1]
                 refine x_if_le (tgt := 85) d_Mo_bodyOf_77 (by decide) (fun c77 => ?_) (fun c77 => ?_)
                 · refine x_iconst (v := -1) d_Mo_bodyOf_85 (by decide) ?_
                   exact x_ireturn d_Mo_bodyOf_86 rfl (by first | rfl | decide) (hQ1 (by
                     rw [hu2]
                     exact decide_eq_false (fun z => z (List.eq_nil_of_length_eq_zero (Nat.eq_zero_of_not_pos fun y => nI_nle y (by have := mb_len (d := c) hBw hf; omega) c77)))))
                 · refine x_iload d_Mo_bodyOf_80 rfl ?_
                   refine x_goto (tgt := 86) d_Mo_bodyOf_82 (by decide) ?_
                   exact x_ireturn d_Mo_bodyOf_86 rfl (by first | rfl | decide) (by
                     have hne : mb X f (c) ≠ [] := fun z => c77 (by rw [z]; decide)
                     exact hQ2 (by rw [hu2]; exact decide_eq_true hne) (c) (by omega) (hu3 hne) hne))
        | (obtain ⟨hu1, hu2, hu3⟩ := uF_p (X := X) hf ek hp0 (bI_0 c28)
           rw [show (6 : Int32) = nI 6 from rfl]
           refine x_istore_n d_Mo_bodyOf_47 rfl rfl ?_
           refine x_bipush (v := 7) d_Mo_bodyOf_48 (by decide) ?_
           refine x_iload_n d_Mo_bodyOf_50 rfl rfl ?_
           refine x_sipush (v := 200) d_Mo_bodyOf_51 (by decide) ?_
           refine x_isub d_Mo_bodyOf_54 ?_
           rw [nI_sub200 (by omega), Nat.add_sub_cancel_left]
           refine x_imul d_Mo_bodyOf_55 ?_
           rw [mul7]
           refine x_iload_n d_Mo_bodyOf_56 rfl rfl ?_
           refine x_iadd d_Mo_bodyOf_57 ?_
           rw [nI_add]
           refine x_istore d_Mo_bodyOf_58 rfl ?_
           refine x_iload_n d_Mo_bodyOf_60 rfl rfl ?_
           refine x_if_lt (tgt := 85) d_Mo_bodyOf_61 (by decide) (fun c61 => ?_) (fun c61 => ?_)
           · exact absurd c61 (nI_pos (by omega))
           · refine x_iload_n d_Mo_bodyOf_64 rfl rfl ?_
             refine x_bipush (v := 6) d_Mo_bodyOf_65 (by decide) ?_
             refine x_icmp_gt (tgt := 85) d_Mo_bodyOf_67 (by decide) (fun c67 => ?_) (fun c67 => ?_)
             · exact absurd c67 (show ¬ nI 6 < nI (6) from nI_nlt (by omega) (by omega))
             · first | refine x_aload_n d_Mo_bodyOf_70 rfl rfl ?_ | refine x_aloadN_n d_Mo_bodyOf_70 rfl rfl ?_ | refine x_aloadE_n d_Mo_bodyOf_70 rfl rfl ?_ | refine x_aloadO_n d_Mo_bodyOf_70 rfl rfl ?_
               refine x_getR d_Mo_bodyOf_71 f_Mo_23 rfl (by first | exact hM.1 | exact hM.s rfl | assumption) (hM.r rfl) ?_
               refine x_iload d_Mo_bodyOf_74 rfl ?_
               refine x_iald d_Mo_bodyOf_76 (by first | exact hM.1 | exact hM.s rfl | assumption) (vp_in_nI (show 7 * f + 6 < 56 by omega) (by decide)) ?_
               rw [nI_clamp (by omega), (hMB f (6) hf (by omega)).1]
               refine x_if_le (tgt := 85) d_Mo_bodyOf_77 (by decide) (fun c77 => ?_) (fun c77 => ?_)
               · refine x_iconst (v := -1) d_Mo_bodyOf_85 (by decide) ?_
                 exact x_ireturn d_Mo_bodyOf_86 rfl (by first | rfl | decide) (hQ1 (by
                   rw [hu2]
                   exact decide_eq_false (fun z => z (List.eq_nil_of_length_eq_zero (Nat.eq_zero_of_not_pos fun y => nI_nle y (by have := mb_len (d := 6) hBw hf; omega) c77)))))
               · refine x_iload d_Mo_bodyOf_80 rfl ?_
                 refine x_goto (tgt := 86) d_Mo_bodyOf_82 (by decide) ?_
                 exact x_ireturn d_Mo_bodyOf_86 rfl (by first | rfl | decide) (by
                   have hne : mb X f (6) ≠ [] := fun z => c77 (by rw [z]; decide)
                   exact hQ2 (by rw [hu2]; exact decide_eq_true hne) (6) (by omega) (hu3 hne) hne))
  · exact absurd (nI_inj (show nI (200 + f) = nI 400 from c11) (by omega) (by decide)) (by omega)
theorem unf_len {P : Int32 → Int32} {zs bs : List Int32} {pv : Nat → Int32} {a p0 cnt : Nat} (hz : 1 ≤ zs.length) : (unf P zs pv a p0 cnt bs).length ≤ zs.length * bs.length + 2 * zs.length := by
  have h1 : (bs.flatMap (uS P zs pv p0 cnt)).length ≤ zs.length * bs.length := fm_le (fun s => by
    rcases uS_cases (P := P) (zs := zs) (pv := pv) (p0 := p0) (s := s) cnt with h | ⟨j, _, _, _, h⟩
    · rw [h.1]; exact hz
    · rw [h, List.length_drop, List.length_take]; omega)
  unfold unf
  rw [List.length_append, List.length_append, List.length_take, List.length_drop]
  omega
set_option maxRecDepth 10000 in
set_option maxHeartbeats 1000000 in
theorem c_Mo_unfold_s {G : Ctx} {d : Nat} {Γ : List Sh} {σ : Mem} {Q : Option Value → List Sh → Mem → Prop} {X : CS} {zs : List Int32} {a f : Nat} (hM : MoS Γ σ) (hC : cSr σ X zs a f) (hzl4 : zs.length ≤ 400) (htm : tmq (nP (sgP (kP X))) (gA (kP X) 100) zs) (hu : uF (kC X) (kB X) zs a = true) (hQ : ∀ τ, FrI [415, 416, 417, 418] σ τ → seg τ 415 0 (uL (kP X) (kC X) (kB X) zs a) → Q none Γ (wI τ 391 30 (nI (uL (kP X) (kC X) (kB X) zs a).length))) : Ct G M_Mo_unfold (d + 5) 0 0 [rf G 391, .int (nI a)] Γ σ Q := by
  obtain ⟨hR, ha, hf, ek, hp0, h394, hnx, hMB, hSw, hBw⟩ := id hC
  have hzl := hR.2.2.1
  have hS := hSw.ok
  refine Ct.of (lv := [some (rf G 391), some (.int (nI a)), none, none, none, none, none, none, none, none, none]) (ll := []) rfl rfl (EN.cat (n := 9) ⟨rfl, rfl, trivial⟩ (Nat.le_of_ble_eq_true rfl)) ?_
  first | refine x_aload_n d_Mo_unfold_0 rfl rfl ?_ | refine x_aloadN_n d_Mo_unfold_0 rfl rfl ?_ | refine x_aloadE_n d_Mo_unfold_0 rfl rfl ?_ | refine x_aloadO_n d_Mo_unfold_0 rfl rfl ?_
  refine x_iload_n d_Mo_unfold_1 rfl rfl ?_
  refine x_callV1 d_Mo_unfold_2 k_Mo_bodyOf l_Mo_171 v_Mo_bodyOf rfl s_Mo_bodyOf (by first | exact hM.1 | exact hM.s rfl | assumption) RoomE.m (Nat.le_of_ble_eq_true rfl) (c_Mo_bodyOf_s hM hC (fun z => by rw [hu] at z; cases z) (fun _ c hc7 hmb hne => ?_))
  refine x_istore_n d_Mo_unfold_5 rfl rfl ?_
  obtain ⟨he, b, hfb⟩ := call_parts (cs := kC X) (a := a) hSw (show zs.length ≤ 10000 by omega) htm ha
  have hpp := hS.1.le (nI (200 + f))
  have huc : ucN (kP X) (kC X) zs a ≤ 100 := (ucI_nat hS).2
  have hpk : mPk σ (200 + f) = nI (nP (sgP (kP X)) (nI (200 + f))) := by
    obtain ⟨k, e, _, h, _⟩ := hR.2.2.2.2 _ (getD_mem ha)
    rw [ek] at e h
    have := nI_inj e (by omega) (by have := ‹okk k›.le; omega)
    rw [this, h, ← this]
    exact hpp.2
  have hp1 : kC X (200 + f) = true → 1 ≤ nP (sgP (kP X)) (nI (200 + f)) := fun z => hS.2 _ (by rw [sgC_n (by omega)]; exact z)
  obtain ⟨ins, hby, hbn, hp0e, hcnt⟩ : ∃ ins, (kC X (200 + f) = true → ∃ c, c < 6 ∧ zs.getD (a + 1) (-1) = nI (100 + c) ∧ ins = qK c ∧ a + 1 < zs.length) ∧ (kC X (200 + f) = false → ins = 0) ∧ up0 (kC X) zs a = a + (if kC X (200 + f) = true then 2 else 1) ∧ ucN (kP X) (kC X) zs a = ins + nP (sgP (kP X)) (nI (200 + f)) - b1 (kC X (200 + f)) := by
    cases hcs : kC X (200 + f) with
    | true =>
      obtain ⟨k1, ha1, ek1, hk106⟩ := hnx hcs
      have hk100 : ¬ k1 < 100 := fun z => by rw [uF_v (X := X) ek hf hcs z ek1] at hu; cases hu
      obtain ⟨cc, rfl⟩ : ∃ cc, k1 = 100 + cc := ⟨k1 - 100, by omega⟩
      obtain ⟨hu1, _, _⟩ := uF_c (X := X) hf ek hp0 hcs (show cc < 6 by omega) ek1
      have := uc_c hS (by rw [ek, sgC_n (by omega)]; exact hcs) (show cc < 6 by omega) hu1
      rw [ek] at this
      exact ⟨qK cc, fun _ => ⟨cc, by omega, ek1, rfl, ha1⟩, (fun z => by cases z), this.2, this.1⟩
    | false =>
      obtain ⟨hu1, _, _⟩ := uF_p (X := X) hf ek hp0 hcs
      have := uc_p (pt := kP X) hu1
      rw [ek] at this
      exact ⟨0, (fun z => by cases z), fun _ => rfl, this.2, by rw [this.1, Nat.zero_add]; rfl⟩
  first | refine x_aload_n d_Mo_unfold_6 rfl rfl ?_ | refine x_aloadN_n d_Mo_unfold_6 rfl rfl ?_ | refine x_aloadE_n d_Mo_unfold_6 rfl rfl ?_ | refine x_aloadO_n d_Mo_unfold_6 rfl rfl ?_
  refine x_getR d_Mo_unfold_7 f_Mo_80 rfl (by first | exact hM.1 | exact hM.s rfl | assumption) (hM.r rfl) ?_
  refine x_iload_n d_Mo_unfold_10 rfl rfl ?_
  refine x_iald d_Mo_unfold_11 (by first | exact hM.1 | exact hM.s rfl | assumption) (vp_in_nI (show a < 20400 by omega) (by decide)) ?_
  rw [nI_clamp (by omega), show σ.1 415 a = zs.getD a (-1) by have := hR.2.1 a ha; rw [Nat.zero_add] at this; exact this, ek]
  refine x_sipush (v := 300) d_Mo_unfold_12 (by decide) ?_
  refine x_icmp_ge (tgt := 22) d_Mo_unfold_15 (by decide) (fun c15 => ?_) (fun c15 => ?_)
  · exact absurd ((nI_leI (by decide) (by omega)).mp (show nI 300 ≤ nI (200 + f) from c15)) (by omega)
  · refine x_iconst (v := 1) d_Mo_unfold_18 (by decide) ?_
    refine x_goto (tgt := 23) d_Mo_unfold_19 (by decide) ?_
    refine x_istore_n d_Mo_unfold_23 rfl rfl ?_
    first | refine x_aload_n d_Mo_unfold_24 rfl rfl ?_ | refine x_aloadN_n d_Mo_unfold_24 rfl rfl ?_ | refine x_aloadE_n d_Mo_unfold_24 rfl rfl ?_ | refine x_aloadO_n d_Mo_unfold_24 rfl rfl ?_
    refine x_iload_n d_Mo_unfold_25 rfl rfl ?_
    refine x_iload_n d_Mo_unfold_26 rfl rfl ?_
    refine x_callV2 d_Mo_unfold_27 k_Mo_bind l_Mo_174 v_Mo_bind rfl s_Mo_bind (by first | exact hM.1 | exact hM.s rfl | assumption) RoomE.m (Nat.le_of_ble_eq_true rfl) (c_Mo_bind (bb := b) (cnt := ucN (kP X) (kC X) zs a) (ins := ins) (prt := nP (sgP (kP X)) (nI (200 + f))) (k := 200 + f) (p0 := up0 (kC X) zs a) (old := true) (pv := fun j => j) hM hS hR ha ek (Or.inl (by omega)) (Or.inl ⟨by omega, by omega, by rw [Nat.add_sub_cancel_left]; exact h394⟩) hpk hpp.1 hp1 hby hbn hp0e (up0_le ha) hcnt hfb (fun _ => by omega) (fun z => by cases z) (fun j hj => by omega) (fun _ _ => rfl) (fun z => by cases z) (fun z => by cases z) (fun z => by cases z) (fun τ1 f1 st1 => ?_))
    have hM1 := hM.fr f1
    have hM := hM1
    refine x_istore d_Mo_unfold_30 rfl ?_
    refine x_iload_n d_Mo_unfold_32 rfl rfl ?_
    refine x_if_eq (tgt := 43) d_Mo_unfold_33 (by decide) (fun c33 => ?_) (fun c33 => ?_)
    · exact absurd c33 (by decide)
    · first | refine x_aload_n d_Mo_unfold_36 rfl rfl ?_ | refine x_aloadN_n d_Mo_unfold_36 rfl rfl ?_ | refine x_aloadE_n d_Mo_unfold_36 rfl rfl ?_ | refine x_aloadO_n d_Mo_unfold_36 rfl rfl ?_
      refine x_getR d_Mo_unfold_37 f_Mo_20 rfl (by first | exact hM.1 | exact hM.s rfl | assumption) (hM.r rfl) ?_
      refine x_goto (tgt := 47) d_Mo_unfold_40 (by decide) ?_
      first | refine x_astore d_Mo_unfold_47 rfl ?_ | refine x_astoreN d_Mo_unfold_47 rfl ?_ | refine x_astoreE d_Mo_unfold_47 rfl ?_ | refine x_astoreO d_Mo_unfold_47 rfl ?_
      refine x_iload_n d_Mo_unfold_49 rfl rfl ?_
      refine x_if_eq (tgt := 60) d_Mo_unfold_50 (by decide) (fun c50 => ?_) (fun c50 => ?_)
      · exact absurd c50 (by decide)
      · refine x_bipush (v := 24) d_Mo_unfold_53 (by decide) ?_
        refine x_iload_n d_Mo_unfold_55 rfl rfl ?_
        refine x_imul d_Mo_unfold_56 ?_
        rw [mul24]
        refine x_goto (tgt := 64) d_Mo_unfold_57 (by decide) ?_
        refine x_istore d_Mo_unfold_64 rfl ?_
        refine x_iload_n d_Mo_unfold_66 rfl rfl ?_
        refine x_if_eq (tgt := 79) d_Mo_unfold_67 (by decide) (fun c67 => ?_) (fun c67 => ?_)
        · exact absurd c67 (by decide)
        · first | refine x_aload_n d_Mo_unfold_70 rfl rfl ?_ | refine x_aloadN_n d_Mo_unfold_70 rfl rfl ?_ | refine x_aloadE_n d_Mo_unfold_70 rfl rfl ?_ | refine x_aloadO_n d_Mo_unfold_70 rfl rfl ?_
          refine x_getR d_Mo_unfold_71 f_Mo_23 rfl (by first | exact hM.1 | exact hM.s rfl | assumption) (hM.r rfl) ?_
          refine x_iload_n d_Mo_unfold_74 rfl rfl ?_
          refine x_iald d_Mo_unfold_75 (by first | exact hM.1 | exact hM.s rfl | assumption) (vp_in_nI (show 7 * f + c < 56 by omega) (by decide)) ?_
          rw [nI_clamp (by omega), f1.2 396 (by simp), (hMB f c hf hc7).1]
          refine x_goto (tgt := 85) d_Mo_unfold_76 (by decide) ?_
          refine x_istore d_Mo_unfold_85 rfl ?_
          have hbd := call_body (V := 100) (g := fun i => 33 + 2 + 2 * i) hSw hBw (htm.2.mono (fun k _ z => z)) ha (by rw [ek, isC_n (by omega)]; exact decide_eq_true (by omega)) hu
          rw [← hmb] at hbd
          have hbl := mb_len (d := c) hBw hf
          have hz1 : 1 ≤ zs.length := by omega
          have hlen := unf_len (P := sgP (kP X)) (zs := zs) (bs := mb X f c) (pv := nI) (a := a) (p0 := up0 (kC X) zs a) (cnt := ucN (kP X) (kC X) zs a) hz1
          exact unf_tail (pt := kP X) (pv := fun j => j) (Nf := 1344) (p0 := up0 (kC X) zs a) (cnt := ucN (kP X) (kC X) zs a) (L := uL (kP X) (kC X) (kB X) zs a) hM1 (by rw [f1.2 391 (by simp)]; exact hR.1) (hR.2.1.fr f1 (by simp)) hzl ha rfl (up0_le ha) (hM1.s rfl) (by simp) (by omega) (by decide) ((hMB f c hf hc7).2.fr f1 (by simp)) (fun s hs => by
            obtain ⟨k, h4, e, hg⟩ := hbd.2 s hs
            refine ⟨k, e, h4, fun hk => ⟨k, ?_, rfl⟩⟩
            unfold gA at hg
            omega) (fun j hj => by omega) st1 (by rw [uL, unf, ← hmb]) (by
            rw [uL, ← hmb]
            refine Nat.le_trans hlen ?_
            have : zs.length * (mb X f c).length ≤ 400 * 24 := Nat.mul_le_mul (by omega) hbl
            omega) (fun τ2 f2 s2 => hQ τ2 ((f1.mono (by simp)).tr (f2.mono (by simp))) s2)
