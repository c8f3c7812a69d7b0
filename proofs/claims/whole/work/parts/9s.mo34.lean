/-! SuperDriverModel: run, whole -/
theorem trO.tr {σ τ : Mem} {X : CS} {pt0 : Nat → Int32} {cs0 : Nat → Bool} {T : TS} (h : trO σ X pt0 cs0 T) (hu : trU σ τ) : trO τ X pt0 cs0 T := by
  obtain ⟨h1, h2, h3, h4, h5, h6, h7, h8, h9, h10⟩ := h
  exact ⟨h1, h2, h3, h4, h5, h6, h7, h8.cg (fun a z1 z2 => hu.1 a z1 (by omega)) hu.2.2, h9.fr (hu.1 410 (by omega) (by omega)) (hu.1 411 (by omega) (by omega)) (hu.1 412 (by omega) (by omega)), fun k z1 z2 z3 => ⟨by rw [hu.1 414 (by omega) (by omega)]; exact (h10 k z1 z2 z3).1, fun i hi => by rw [hu.1 413 (by omega) (by omega)]; exact (h10 k z1 z2 z3).2 i hi⟩⟩
theorem rFr.u {σ τ : Mem} (h : rFr σ τ) : trU σ τ := ⟨fun a h1 h2 => h.1.2 a (by simp; omega), h.2 11 (by decide) (by decide) (by decide), h.2 13 (by decide) (by decide) (by decide)⟩
theorem sOK_s {σ : Mem} {X : CS} {V k : Nat} (hS : SW (kP X) (kC X)) (hF : mFn σ X) (hk : k ≤ 400) (h : gA (kP X) V k) : sOK σ (kP X) (kC X) (nI k) := by
  refine ⟨k, rfl, Or.inl (gA_k k hk h).1, mPk_eq hS (fun f hf => (hF f hf).1) (gA_k k hk h).1 (gA_k k hk h).2, fun h200 => Or.inl ⟨h200, (gA_k k hk h).1, ?_⟩⟩
  have hq : k - 200 < 8 := by have := (gA_k k hk h).1; omega
  have := (hF (k - 200) hq).2
  rw [show 200 + (k - 200) = k by omega] at this
  exact this (by
    unfold gA at h
    rcases h with z | z | z
    · omega
    · omega
    · exact z.2.2)
theorem mFn.r {σ τ : Mem} {X : CS} (h : mFn σ X) (f : rFr σ τ) : mFn τ X := fun i hi => by rw [f.1.2 393 (by simp), f.1.2 394 (by simp)]; exact h i hi
theorem mBd.r {σ τ : Mem} {X : CS} (h : mBd σ X) (f : rFr σ τ) : mBd τ X := fun g c hg hc => ⟨by rw [f.1.2 396 (by simp)]; exact (h g c hg hc).1, fun i hi => by rw [f.1.2 395 (by simp)]; exact (h g c hg hc).2 i hi⟩
/-- the row, against the source program -/
theorem rwO_s {τ : Mem} {X : CS} {V : Nat} {y : List Int32} (hS : SW (kP X) (kC X)) (hF : mFn τ X) (hr : Rw τ y) (hI : tmq (nP (sgP (kP X))) (gA (kP X) V) y) (hl : y.length ≤ 200) : rwO τ (kP X) (kC X) y :=
  ⟨hr.1, hr.2, by omega, hI.1, fun s hs => by
    obtain ⟨k, hk, rfl, hg⟩ := hI.2 s hs
    exact sOK_s hS hF hk hg⟩
theorem cSr_s {τ : Mem} {X : CS} {V : Nat} {y : List Int32} {a : Nat} (hW : csW X) (hF : mFn τ X) (hB : mBd τ X) (hr : Rw τ y) (hI : tmq (nP (sgP (kP X))) (gA (kP X) V) y) (hl : y.length ≤ 200) (hn : nxc (sgC (kC X)) y = some a) : ∃ f, cSr τ X y a f := by
  obtain ⟨ha, hCa⟩ := nxc_at hn
  have hnot := nxc_not hn
  have hS := hW.2.1
  obtain ⟨kf, hkf4, ekf, hgf⟩ := hI.2.getD ha
  have hf2 : 200 ≤ kf := by rw [ekf, isC_n (by omega)] at hCa; exact of_decide_eq_true hCa
  obtain ⟨f, rfl⟩ : ∃ f, kf = 200 + f := ⟨kf - 200, by omega⟩
  have hf8 : f < 8 := by unfold gA at hgf; omega
  have hp0 : kP X (200 + f) ≠ 0 := by unfold gA at hgf; rcases hgf with z | z | z; omega; omega; exact z.2.2
  have hsg : sgC (kC X) (y.getD a (-1)) = kC X (200 + f) := by rw [ekf, sgC_n (by omega)]
  refine ⟨f, rwO_s hS hF hr hI hl, ha, hf8, ekf, hp0, (hF f hf8).2 hp0, fun z => ?_, hB, hS, hW.2.2.1⟩
  have h1 := cs_nx hS.ok hI.1 ha (by rw [hsg]; exact z)
  obtain ⟨k1, hk1, e1, hg1⟩ := hI.2.getD h1
  rw [hsg, z, Bool.true_and, e1, isC_n (by omega)] at hnot
  have := of_decide_eq_false hnot
  refine ⟨k1, h1, e1, ?_⟩
  unfold gA at hg1
  omega
theorem sBd_le {τ : Mem} {X : CS} {y : List Int32} {a f : Nat} (h : cSr τ X y a f) (hu : uF (kC X) (kB X) y a = true) : (sBd (kB X) (y.getD a (-1)) (caf (kC X) y a)).length ≤ 24 := by
  obtain ⟨hR, ha, hf, ek, hp0, h394, hnx, hMB, hSw, hBw⟩ := h
  cases hcs : kC X (200 + f) with
  | true =>
    obtain ⟨k1, ha1, ek1, hk106⟩ := hnx hcs
    have hk100 : ¬ k1 < 100 := fun z => by rw [uF_v (X := X) ek hf hcs z ek1] at hu; cases hu
    obtain ⟨c, rfl⟩ : ∃ c, k1 = 100 + c := ⟨k1 - 100, by omega⟩
    obtain ⟨_, u2, u3⟩ := uF_c hf ek hp0 hcs (show c < 6 by omega) ek1
    rw [u2] at hu
    rw [← u3 (of_decide_eq_true hu)]
    exact mb_len hBw hf
  | false =>
    obtain ⟨_, u2, u3⟩ := uF_p hf ek hp0 hcs
    rw [u2] at hu
    rw [← u3 (of_decide_eq_true hu)]
    exact mb_len hBw hf
theorem isMC.run {σ τ : Mem} {X : CS} {R : Int32 × Nat × List Int32} (h : isMC σ X) (f : FrI [391, 415, 416, 417, 418, 425] σ τ) (f2 : ∀ j, j ≠ 30 → j ≠ 43 → j ≠ 44 → j ≠ 45 → τ.1 391 j = σ.1 391 j) (h43 : τ.1 391 43 = R.1) (h44 : τ.1 391 44 = nI R.2.1) (h0 : R.1 = 0 → τ.1 391 45 = nI R.2.2.length ∧ ∀ i, i < R.2.2.length → τ.1 425 i = R.2.2.getD i (-1) - 100) : isMC τ (csRn X R) := by
  obtain ⟨h1, h2, h3, h4, h5, h6⟩ := h
  refine ⟨⟨by rw [f2 1 (by decide) (by decide) (by decide) (by decide)]; exact h1.1, fun i hi => by rw [f.2 392 (by simp)]; exact h1.2 i hi⟩, fun i hi => by rw [f.2 393 (by simp), f.2 394 (by simp)]; exact h2 i hi, fun g c hg hc => ⟨by rw [f.2 396 (by simp)]; exact (h3 g c hg hc).1, fun i hi => by rw [f.2 395 (by simp)]; exact (h3 g c hg hc).2 i hi⟩, ⟨by rw [f2 7 (by decide) (by decide) (by decide) (by decide)]; exact h4.1, fun i hi => by rw [f.2 397 (by simp)]; exact h4.2 i hi⟩, fun v hv => ⟨by rw [f.2 399 (by simp)]; exact (h5 v hv).1, fun i hi => by rw [f.2 398 (by simp)]; exact (h5 v hv).2 i hi⟩, h43, h44, h0⟩
/-- the term that a run begins with -/
theorem inp_tm {X : CS} {A B : Nat → Prop} {l : List Int32} (hW : csW X) (ht : tmq (nP (sgP (kP X))) A l) (hA : ∀ k, k ≤ 400 → A k → (k < 8 ∧ 0 < (kI X k).length) ∨ (100 ≤ k ∧ B k)) (hB : ∀ k, kA k → B k) : tmq (nP (sgP (kP X))) B (l.flatMap (inpS (kI X))) := by
  refine ⟨full_flat (fun s hs => ?_) ht.1, fun s hs => ?_⟩
  · obtain ⟨k, hk, rfl, ha⟩ := ht.2 s hs
    rcases hA k hk ha with ⟨h8, h0⟩ | ⟨h1, _⟩
    · left
      refine ⟨hW.2.1.v (by omega), ?_⟩
      rw [inpS_v h8]
      exact ((hW.2.2.2.2.1 k h8).2 (fun z => by rw [z] at h0; exact absurd h0 (by decide))).1
    · right
      exact inpS_k h1 hk
  · obtain ⟨x, hx, hsx⟩ := List.mem_flatMap.mp hs
    obtain ⟨k, hk, rfl, ha⟩ := ht.2 x hx
    rcases hA k hk ha with ⟨h8, h0⟩ | ⟨h1, hb⟩
    · rw [inpS_v h8] at hsx
      obtain ⟨q, hq, e, hqa⟩ := ((hW.2.2.2.2.1 k h8).2 (fun z => by rw [z] at h0; exact absurd h0 (by decide))).2 s hsx
      exact ⟨q, hq, e, hB q hqa⟩
    · rw [inpS_k h1 hk] at hsx
      have : s = nI k := by simpa using hsx
      exact ⟨k, hk, this, hb⟩
theorem inp_len {X : CS} {l : List Int32} (hW : csW X) (hs : ∀ s ∈ l, sgB s) : (l.flatMap (inpS (kI X))).length ≤ l.length * 24 := flat_le (fun s h => by
  obtain ⟨q, hq, rfl, hq8⟩ := hs s h
  rcases hq8 with z | z
  · rw [inpS_v z]; exact (hW.2.2.2.2.1 q z).1
  · rw [inpS_k z hq]; simp)
theorem aInp_v {X : CS} {k : Nat} (h : aInp X = true) (hk : k < 8) (hm : nI k ∈ kG X) : 0 < (kI X k).length := by
  unfold aInp at h
  have := List.all_eq_true.mp h _ hm
  rw [inp1_v hk] at this
  have h2 : decide ((kI X k).length = 0) = false := by simpa using this
  have := of_decide_eq_false h2
  omega
theorem rn_g {X : CS} {b : Bool} (h : rnBad X b = false) : (b = true → 0 < tN (kR X)) ∧ kG X ≠ [] ∧ aInp X = true := by
  unfold rnBad at h
  rw [Bool.or_eq_false_iff, Bool.or_eq_false_iff] at h
  refine ⟨fun z => ?_, of_decide_eq_false h.1.2, by simpa using h.2⟩
  rw [z, Bool.true_and] at h
  have := of_decide_eq_false h.1.1
  omega
set_option maxRecDepth 10000 in
set_option maxHeartbeats 1000000 in
theorem run_h {G : Ctx} {d : Nat} {Γ : List Sh} {σ : Mem} {Q : Option Value → List Sh → Mem → Prop} {X : CS} {bb : Bool} {f : Int32} (hM : MoS Γ σ) (hX : isMC σ X) (hT : isMT σ X) (hW : csW X) (hE1 : fuBad f = true → Q (some (.int 0)) Γ (wI σ 391 0 1)) (hE2 : fuBad f = false → rnBad X bb = true → Q (some (.int 0)) Γ (wI σ 391 0 2)) (hK : ∀ k, k ≤ 500 → f = nI k → fuBad f = false → rnBad X bb = false → Wq G M_Mo_run (Em G (d + 6) 0 0 Q) 0 0 62 [some (rf G 391), some (.int (bI bb)), some (.int (nI k)), some (.int 0), none] [] [] Γ (wI σ 391 0 0)) : Ct G M_Mo_run (d + 6) 0 0 [rf G 391, .int (bI bb), .int f] Γ σ Q := by
  have hgl := hW.2.2.2.1.1
  refine Ct.of (lv := [some (rf G 391), some (.int (bI bb)), some (.int f), none, none]) (ll := []) rfl rfl (EN.cat (n := 2) ⟨rfl, rfl, rfl, trivial⟩ (Nat.le_of_ble_eq_true rfl)) ?_
  refine x_iload_n d_Mo_run_0 rfl rfl ?_
  refine x_iconst (v := 1) d_Mo_run_1 (by decide) ?_
  refine x_icmp_lt (tgt := 12) d_Mo_run_2 (by decide) (fun c2 => ?_) (fun c2 => ?_)
  · have hfb : fuBad f = true := by unfold fuBad; rw [if_pos c2]
    refine x_iconst (v := 1) d_Mo_run_12 (by decide) ?_
    refine x_goto (tgt := 17) d_Mo_run_13 (by decide) ?_
    rw [show (1 : Int32) = bI true from rfl]
    refine x_istore_n d_Mo_run_17 rfl rfl ?_
    first | refine x_aload_n d_Mo_run_18 rfl rfl ?_ | refine x_aloadN_n d_Mo_run_18 rfl rfl ?_ | refine x_aloadE_n d_Mo_run_18 rfl rfl ?_ | refine x_aloadO_n d_Mo_run_18 rfl rfl ?_
    refine x_iload_n d_Mo_run_19 rfl rfl ?_
    refine x_iload_n d_Mo_run_20 rfl rfl ?_
    refine x_if_ne (tgt := 53) d_Mo_run_21 (by decide) (fun c21 => ?_) (fun c21 => ?_)
    · refine x_iconst (v := 0) d_Mo_run_53 (by decide) ?_
      rw [show (0 : Int32) = bI false from rfl]
      refine x_callV2 d_Mo_run_54 k_Mo_throwing l_Mo_145 v_Mo_throwing rfl s_Mo_throwing (by first | exact hM.1 | exact hM.s rfl | assumption) RoomE.m (Nat.le_of_ble_eq_true rfl) (c_Mo_throwing (a := true) (b := false) hM ?_)
      refine x_if_eq (tgt := 62) d_Mo_run_57 (by decide) (fun c57 => absurd c57 (by decide)) (fun c57 => ?_)
      refine x_iconst (v := 0) d_Mo_run_60 (by decide) ?_
      exact x_ireturn d_Mo_run_61 rfl (by first | rfl | decide) (hE1 hfb)
    · exact absurd c21 (by decide)
  · refine x_iload_n d_Mo_run_5 rfl rfl ?_
    refine x_sipush (v := 500) d_Mo_run_6 (by decide) ?_
    refine x_icmp_le (tgt := 16) d_Mo_run_9 (by decide) (fun c9 => ?_) (fun c9 => ?_)
    · have hfb : fuBad f = false := by unfold fuBad; rw [if_neg c2, if_pos (show f ≤ 500 from c9)]
      obtain ⟨k, hk, rfl⟩ := nI_of (show ¬ f < 0 from fun z => c2 (Int32.lt_trans z (by decide)))
      have hk5 : k ≤ 500 := (nI_leI hk (by decide)).mp (show nI k ≤ nI 500 from c9)
      refine x_iconst (v := 0) d_Mo_run_16 (by decide) ?_
      rw [show (0 : Int32) = bI false from rfl]
      refine x_istore_n d_Mo_run_17 rfl rfl ?_
      first | refine x_aload_n d_Mo_run_18 rfl rfl ?_ | refine x_aloadN_n d_Mo_run_18 rfl rfl ?_ | refine x_aloadE_n d_Mo_run_18 rfl rfl ?_ | refine x_aloadO_n d_Mo_run_18 rfl rfl ?_
      refine x_iload_n d_Mo_run_19 rfl rfl ?_
      refine x_iload_n d_Mo_run_20 rfl rfl ?_
      refine x_if_ne (tgt := 53) d_Mo_run_21 (by decide) (fun c21 => ?_) (fun c21 => ?_)
      · exact absurd rfl c21
      · first | refine x_aload_n d_Mo_run_24 rfl rfl ?_ | refine x_aloadN_n d_Mo_run_24 rfl rfl ?_ | refine x_aloadE_n d_Mo_run_24 rfl rfl ?_ | refine x_aloadO_n d_Mo_run_24 rfl rfl ?_
        refine x_getI d_Mo_run_25 f_Mo_135 rfl (by first | exact hM.1 | exact hM.s rfl | assumption) ?_
        rw [hX.2.2.2.1.1]
        refine x_if_eq (tgt := 49) d_Mo_run_28 (by decide) (fun c28 => ?_) (fun c28 => ?_)
        · refine x_iconst (v := 1) d_Mo_run_49 (by decide) ?_
          refine x_goto (tgt := 54) d_Mo_run_50 (by decide) ?_
          first
          | (have hrb : rnBad X bb = true := by 
               have : kG X = [] := List.length_eq_zero_iff.mp (nI_inj (b := 0) (c28.trans nI_0.symm) (by omega) (by omega))
               unfold rnBad
               rw [decide_eq_true this, Bool.or_true, Bool.true_or]
             rw [show (1 : Int32) = bI true from rfl]
             refine x_callV2 d_Mo_run_54 k_Mo_throwing l_Mo_145 v_Mo_throwing rfl s_Mo_throwing (by exact hM.1) RoomE.m (Nat.le_of_ble_eq_true rfl) (c_Mo_throwing (a := false) (b := true) hM ?_)
             refine x_if_eq (tgt := 62) d_Mo_run_57 (by decide) (fun c57 => absurd c57 (by decide)) (fun c57 => ?_)
             refine x_iconst (v := 0) d_Mo_run_60 (by decide) ?_
             exact x_ireturn d_Mo_run_61 rfl (by first | rfl | decide) (hE2 hfb hrb))
          | (have hrb : rnBad X bb = true := by 
               have h0 : ¬ 0 < tN (kR X) := of_decide_eq_false (bI_0 c39)
               unfold rnBad
               rw [bI_n0 c32, decide_eq_true (show tN (kR X) = 0 by omega)]
               rfl
             rw [show (1 : Int32) = bI true from rfl]
             refine x_callV2 d_Mo_run_54 k_Mo_throwing l_Mo_145 v_Mo_throwing rfl s_Mo_throwing (by exact hM.1) RoomE.m (Nat.le_of_ble_eq_true rfl) (c_Mo_throwing (a := false) (b := true) hM ?_)
             refine x_if_eq (tgt := 62) d_Mo_run_57 (by decide) (fun c57 => absurd c57 (by decide)) (fun c57 => ?_)
             refine x_iconst (v := 0) d_Mo_run_60 (by decide) ?_
             exact x_ireturn d_Mo_run_61 rfl (by first | rfl | decide) (hE2 hfb hrb))
          | (have hrb : rnBad X bb = true := by 
               unfold rnBad
               rw [bI_0 c46, Bool.not_false, Bool.or_true]
             rw [show (1 : Int32) = bI true from rfl]
             refine x_callV2 d_Mo_run_54 k_Mo_throwing l_Mo_145 v_Mo_throwing rfl s_Mo_throwing (by exact hM.1) RoomE.m (Nat.le_of_ble_eq_true rfl) (c_Mo_throwing (a := false) (b := true) hM ?_)
             refine x_if_eq (tgt := 62) d_Mo_run_57 (by decide) (fun c57 => absurd c57 (by decide)) (fun c57 => ?_)
             refine x_iconst (v := 0) d_Mo_run_60 (by decide) ?_
             exact x_ireturn d_Mo_run_61 rfl (by first | rfl | decide) (hE2 hfb hrb))
          | (have hrb : rnBad X bb = false := by 
               have h1 : kG X ≠ [] := fun z => c28 (by rw [z]; rfl)
               unfold rnBad
               rw [bI_n0 c46, decide_eq_false h1, Bool.or_false, Bool.not_true, Bool.or_false]
               first
               | (rw [bI_0 c32]; rfl)
               | (have h0 : 0 < tN (kR X) := of_decide_eq_true (bI_n0 c39)
                  rw [decide_eq_false (show ¬ tN (kR X) = 0 by omega), Bool.and_false])
             rw [show (0 : Int32) = bI false from rfl]
             refine x_callV2 d_Mo_run_54 k_Mo_throwing l_Mo_145 v_Mo_throwing rfl s_Mo_throwing (by exact hM.1) RoomE.m (Nat.le_of_ble_eq_true rfl) (c_Mo_throwing (a := false) (b := false) hM ?_)
             refine x_if_eq (tgt := 62) d_Mo_run_57 (by decide) (fun c57 => ?_) (fun c57 => absurd rfl c57)
             exact Wq.fg (hK k hk5 rfl hfb hrb) lsub_rf)
        · refine x_iload_n d_Mo_run_31 rfl rfl ?_
          refine x_if_eq (tgt := 42) d_Mo_run_32 (by decide) (fun c32 => ?_) (fun c32 => ?_)
          · first | refine x_aload_n d_Mo_run_42 rfl rfl ?_ | refine x_aloadN_n d_Mo_run_42 rfl rfl ?_ | refine x_aloadE_n d_Mo_run_42 rfl rfl ?_ | refine x_aloadO_n d_Mo_run_42 rfl rfl ?_
            refine x_callV0 d_Mo_run_43 k_Mo_hasInputs l_Mo_284 v_Mo_hasInputs rfl s_Mo_hasInputs (by first | exact hM.1 | exact hM.s rfl | assumption) RoomE.m (Nat.le_of_ble_eq_true rfl) (c_Mo_hasInputs hM hX hW ?_)
            skip
            refine x_if_ne (tgt := 53) d_Mo_run_46 (by decide) (fun c46 => ?_) (fun c46 => ?_)
            · refine x_iconst (v := 0) d_Mo_run_53 (by decide) ?_
              first
              | (have hrb : rnBad X bb = true := by 
                   have : kG X = [] := List.length_eq_zero_iff.mp (nI_inj (b := 0) (c28.trans nI_0.symm) (by omega) (by omega))
                   unfold rnBad
                   rw [decide_eq_true this, Bool.or_true, Bool.true_or]
                 rw [show (1 : Int32) = bI true from rfl]
                 refine x_callV2 d_Mo_run_54 k_Mo_throwing l_Mo_145 v_Mo_throwing rfl s_Mo_throwing (by exact hM.1) RoomE.m (Nat.le_of_ble_eq_true rfl) (c_Mo_throwing (a := false) (b := true) hM ?_)
                 refine x_if_eq (tgt := 62) d_Mo_run_57 (by decide) (fun c57 => absurd c57 (by decide)) (fun c57 => ?_)
                 refine x_iconst (v := 0) d_Mo_run_60 (by decide) ?_
                 exact x_ireturn d_Mo_run_61 rfl (by first | rfl | decide) (hE2 hfb hrb))
              | (have hrb : rnBad X bb = true := by 
                   have h0 : ¬ 0 < tN (kR X) := of_decide_eq_false (bI_0 c39)
                   unfold rnBad
                   rw [bI_n0 c32, decide_eq_true (show tN (kR X) = 0 by omega)]
                   rfl
                 rw [show (1 : Int32) = bI true from rfl]
                 refine x_callV2 d_Mo_run_54 k_Mo_throwing l_Mo_145 v_Mo_throwing rfl s_Mo_throwing (by exact hM.1) RoomE.m (Nat.le_of_ble_eq_true rfl) (c_Mo_throwing (a := false) (b := true) hM ?_)
                 refine x_if_eq (tgt := 62) d_Mo_run_57 (by decide) (fun c57 => absurd c57 (by decide)) (fun c57 => ?_)
                 refine x_iconst (v := 0) d_Mo_run_60 (by decide) ?_
                 exact x_ireturn d_Mo_run_61 rfl (by first | rfl | decide) (hE2 hfb hrb))
              | (have hrb : rnBad X bb = true := by 
                   unfold rnBad
                   rw [bI_0 c46, Bool.not_false, Bool.or_true]
                 rw [show (1 : Int32) = bI true from rfl]
                 refine x_callV2 d_Mo_run_54 k_Mo_throwing l_Mo_145 v_Mo_throwing rfl s_Mo_throwing (by exact hM.1) RoomE.m (Nat.le_of_ble_eq_true rfl) (c_Mo_throwing (a := false) (b := true) hM ?_)
                 refine x_if_eq (tgt := 62) d_Mo_run_57 (by decide) (fun c57 => absurd c57 (by decide)) (fun c57 => ?_)
                 refine x_iconst (v := 0) d_Mo_run_60 (by decide) ?_
                 exact x_ireturn d_Mo_run_61 rfl (by first | rfl | decide) (hE2 hfb hrb))
              | (have hrb : rnBad X bb = false := by 
                   have h1 : kG X ≠ [] := fun z => c28 (by rw [z]; rfl)
                   unfold rnBad
                   rw [bI_n0 c46, decide_eq_false h1, Bool.or_false, Bool.not_true, Bool.or_false]
                   first
                   | (rw [bI_0 c32]; rfl)
                   | (have h0 : 0 < tN (kR X) := of_decide_eq_true (bI_n0 c39)
                      rw [decide_eq_false (show ¬ tN (kR X) = 0 by omega), Bool.and_false])
                 rw [show (0 : Int32) = bI false from rfl]
                 refine x_callV2 d_Mo_run_54 k_Mo_throwing l_Mo_145 v_Mo_throwing rfl s_Mo_throwing (by exact hM.1) RoomE.m (Nat.le_of_ble_eq_true rfl) (c_Mo_throwing (a := false) (b := false) hM ?_)
                 refine x_if_eq (tgt := 62) d_Mo_run_57 (by decide) (fun c57 => ?_) (fun c57 => absurd rfl c57)
                 exact Wq.fg (hK k hk5 rfl hfb hrb) lsub_rf)
            · refine x_iconst (v := 1) d_Mo_run_49 (by decide) ?_
              refine x_goto (tgt := 54) d_Mo_run_50 (by decide) ?_
              first
              | (have hrb : rnBad X bb = true := by 
                   have : kG X = [] := List.length_eq_zero_iff.mp (nI_inj (b := 0) (c28.trans nI_0.symm) (by omega) (by omega))
                   unfold rnBad
                   rw [decide_eq_true this, Bool.or_true, Bool.true_or]
                 rw [show (1 : Int32) = bI true from rfl]
                 refine x_callV2 d_Mo_run_54 k_Mo_throwing l_Mo_145 v_Mo_throwing rfl s_Mo_throwing (by exact hM.1) RoomE.m (Nat.le_of_ble_eq_true rfl) (c_Mo_throwing (a := false) (b := true) hM ?_)
                 refine x_if_eq (tgt := 62) d_Mo_run_57 (by decide) (fun c57 => absurd c57 (by decide)) (fun c57 => ?_)
                 refine x_iconst (v := 0) d_Mo_run_60 (by decide) ?_
                 exact x_ireturn d_Mo_run_61 rfl (by first | rfl | decide) (hE2 hfb hrb))
              | (have hrb : rnBad X bb = true := by 
                   have h0 : ¬ 0 < tN (kR X) := of_decide_eq_false (bI_0 c39)
                   unfold rnBad
                   rw [bI_n0 c32, decide_eq_true (show tN (kR X) = 0 by omega)]
                   rfl
                 rw [show (1 : Int32) = bI true from rfl]
                 refine x_callV2 d_Mo_run_54 k_Mo_throwing l_Mo_145 v_Mo_throwing rfl s_Mo_throwing (by exact hM.1) RoomE.m (Nat.le_of_ble_eq_true rfl) (c_Mo_throwing (a := false) (b := true) hM ?_)
                 refine x_if_eq (tgt := 62) d_Mo_run_57 (by decide) (fun c57 => absurd c57 (by decide)) (fun c57 => ?_)
                 refine x_iconst (v := 0) d_Mo_run_60 (by decide) ?_
                 exact x_ireturn d_Mo_run_61 rfl (by first | rfl | decide) (hE2 hfb hrb))
              | (have hrb : rnBad X bb = true := by 
                   unfold rnBad
                   rw [bI_0 c46, Bool.not_false, Bool.or_true]
                 rw [show (1 : Int32) = bI true from rfl]
                 refine x_callV2 d_Mo_run_54 k_Mo_throwing l_Mo_145 v_Mo_throwing rfl s_Mo_throwing (by exact hM.1) RoomE.m (Nat.le_of_ble_eq_true rfl) (c_Mo_throwing (a := false) (b := true) hM ?_)
                 refine x_if_eq (tgt := 62) d_Mo_run_57 (by decide) (fun c57 => absurd c57 (by decide)) (fun c57 => ?_)
                 refine x_iconst (v := 0) d_Mo_run_60 (by decide) ?_
                 exact x_ireturn d_Mo_run_61 rfl (by first | rfl | decide) (hE2 hfb hrb))
              | (have hrb : rnBad X bb = false := by 
                   have h1 : kG X ≠ [] := fun z => c28 (by rw [z]; rfl)
                   unfold rnBad
                   rw [bI_n0 c46, decide_eq_false h1, Bool.or_false, Bool.not_true, Bool.or_false]
                   first
                   | (rw [bI_0 c32]; rfl)
                   | (have h0 : 0 < tN (kR X) := of_decide_eq_true (bI_n0 c39)
                      rw [decide_eq_false (show ¬ tN (kR X) = 0 by omega), Bool.and_false])
                 rw [show (0 : Int32) = bI false from rfl]
                 refine x_callV2 d_Mo_run_54 k_Mo_throwing l_Mo_145 v_Mo_throwing rfl s_Mo_throwing (by exact hM.1) RoomE.m (Nat.le_of_ble_eq_true rfl) (c_Mo_throwing (a := false) (b := false) hM ?_)
                 refine x_if_eq (tgt := 62) d_Mo_run_57 (by decide) (fun c57 => ?_) (fun c57 => absurd rfl c57)
                 exact Wq.fg (hK k hk5 rfl hfb hrb) lsub_rf)
          · first | refine x_aload_n d_Mo_run_35 rfl rfl ?_ | refine x_aloadN_n d_Mo_run_35 rfl rfl ?_ | refine x_aloadE_n d_Mo_run_35 rfl rfl ?_ | refine x_aloadO_n d_Mo_run_35 rfl rfl ?_
            refine x_getI d_Mo_run_36 f_Mo_138 rfl (by first | exact hM.1 | exact hM.s rfl | assumption) ?_
            rw [hT.1]
            refine x_if_eq (tgt := 49) d_Mo_run_39 (by decide) (fun c39 => ?_) (fun c39 => ?_)
            · refine x_iconst (v := 1) d_Mo_run_49 (by decide) ?_
              refine x_goto (tgt := 54) d_Mo_run_50 (by decide) ?_
              first
              | (have hrb : rnBad X bb = true := by 
                   have : kG X = [] := List.length_eq_zero_iff.mp (nI_inj (b := 0) (c28.trans nI_0.symm) (by omega) (by omega))
                   unfold rnBad
                   rw [decide_eq_true this, Bool.or_true, Bool.true_or]
                 rw [show (1 : Int32) = bI true from rfl]
                 refine x_callV2 d_Mo_run_54 k_Mo_throwing l_Mo_145 v_Mo_throwing rfl s_Mo_throwing (by exact hM.1) RoomE.m (Nat.le_of_ble_eq_true rfl) (c_Mo_throwing (a := false) (b := true) hM ?_)
                 refine x_if_eq (tgt := 62) d_Mo_run_57 (by decide) (fun c57 => absurd c57 (by decide)) (fun c57 => ?_)
                 refine x_iconst (v := 0) d_Mo_run_60 (by decide) ?_
                 exact x_ireturn d_Mo_run_61 rfl (by first | rfl | decide) (hE2 hfb hrb))
              | (have hrb : rnBad X bb = true := by 
                   have h0 : ¬ 0 < tN (kR X) := of_decide_eq_false (bI_0 c39)
                   unfold rnBad
                   rw [bI_n0 c32, decide_eq_true (show tN (kR X) = 0 by omega)]
                   rfl
                 rw [show (1 : Int32) = bI true from rfl]
                 refine x_callV2 d_Mo_run_54 k_Mo_throwing l_Mo_145 v_Mo_throwing rfl s_Mo_throwing (by exact hM.1) RoomE.m (Nat.le_of_ble_eq_true rfl) (c_Mo_throwing (a := false) (b := true) hM ?_)
                 refine x_if_eq (tgt := 62) d_Mo_run_57 (by decide) (fun c57 => absurd c57 (by decide)) (fun c57 => ?_)
                 refine x_iconst (v := 0) d_Mo_run_60 (by decide) ?_
                 exact x_ireturn d_Mo_run_61 rfl (by first | rfl | decide) (hE2 hfb hrb))
              | (have hrb : rnBad X bb = true := by 
                   unfold rnBad
                   rw [bI_0 c46, Bool.not_false, Bool.or_true]
                 rw [show (1 : Int32) = bI true from rfl]
                 refine x_callV2 d_Mo_run_54 k_Mo_throwing l_Mo_145 v_Mo_throwing rfl s_Mo_throwing (by exact hM.1) RoomE.m (Nat.le_of_ble_eq_true rfl) (c_Mo_throwing (a := false) (b := true) hM ?_)
                 refine x_if_eq (tgt := 62) d_Mo_run_57 (by decide) (fun c57 => absurd c57 (by decide)) (fun c57 => ?_)
                 refine x_iconst (v := 0) d_Mo_run_60 (by decide) ?_
                 exact x_ireturn d_Mo_run_61 rfl (by first | rfl | decide) (hE2 hfb hrb))
              | (have hrb : rnBad X bb = false := by 
                   have h1 : kG X ≠ [] := fun z => c28 (by rw [z]; rfl)
                   unfold rnBad
                   rw [bI_n0 c46, decide_eq_false h1, Bool.or_false, Bool.not_true, Bool.or_false]
                   first
                   | (rw [bI_0 c32]; rfl)
                   | (have h0 : 0 < tN (kR X) := of_decide_eq_true (bI_n0 c39)
                      rw [decide_eq_false (show ¬ tN (kR X) = 0 by omega), Bool.and_false])
                 rw [show (0 : Int32) = bI false from rfl]
                 refine x_callV2 d_Mo_run_54 k_Mo_throwing l_Mo_145 v_Mo_throwing rfl s_Mo_throwing (by exact hM.1) RoomE.m (Nat.le_of_ble_eq_true rfl) (c_Mo_throwing (a := false) (b := false) hM ?_)
                 refine x_if_eq (tgt := 62) d_Mo_run_57 (by decide) (fun c57 => ?_) (fun c57 => absurd rfl c57)
                 exact Wq.fg (hK k hk5 rfl hfb hrb) lsub_rf)
            · first | refine x_aload_n d_Mo_run_42 rfl rfl ?_ | refine x_aloadN_n d_Mo_run_42 rfl rfl ?_ | refine x_aloadE_n d_Mo_run_42 rfl rfl ?_ | refine x_aloadO_n d_Mo_run_42 rfl rfl ?_
              refine x_callV0 d_Mo_run_43 k_Mo_hasInputs l_Mo_284 v_Mo_hasInputs rfl s_Mo_hasInputs (by first | exact hM.1 | exact hM.s rfl | assumption) RoomE.m (Nat.le_of_ble_eq_true rfl) (c_Mo_hasInputs hM hX hW ?_)
              skip
              refine x_if_ne (tgt := 53) d_Mo_run_46 (by decide) (fun c46 => ?_) (fun c46 => ?_)
              · refine x_iconst (v := 0) d_Mo_run_53 (by decide) ?_
                first
                | (have hrb : rnBad X bb = true := by 
                     have : kG X = [] := List.length_eq_zero_iff.mp (nI_inj (b := 0) (c28.trans nI_0.symm) (by omega) (by omega))
                     unfold rnBad
                     rw [decide_eq_true this, Bool.or_true, Bool.true_or]
                   rw [show (1 : Int32) = bI true from rfl]
                   refine x_callV2 d_Mo_run_54 k_Mo_throwing l_Mo_145 v_Mo_throwing rfl s_Mo_throwing (by exact hM.1) RoomE.m (Nat.le_of_ble_eq_true rfl) (c_Mo_throwing (a := false) (b := true) hM ?_)
                   refine x_if_eq (tgt := 62) d_Mo_run_57 (by decide) (fun c57 => absurd c57 (by decide)) (fun c57 => ?_)
                   refine x_iconst (v := 0) d_Mo_run_60 (by decide) ?_
                   exact x_ireturn d_Mo_run_61 rfl (by first | rfl | decide) (hE2 hfb hrb))
                | (have hrb : rnBad X bb = true := by 
                     have h0 : ¬ 0 < tN (kR X) := of_decide_eq_false (bI_0 c39)
                     unfold rnBad
                     rw [bI_n0 c32, decide_eq_true (show tN (kR X) = 0 by omega)]
                     rfl
                   rw [show (1 : Int32) = bI true from rfl]
                   refine x_callV2 d_Mo_run_54 k_Mo_throwing l_Mo_145 v_Mo_throwing rfl s_Mo_throwing (by exact hM.1) RoomE.m (Nat.le_of_ble_eq_true rfl) (c_Mo_throwing (a := false) (b := true) hM ?_)
                   refine x_if_eq (tgt := 62) d_Mo_run_57 (by decide) (fun c57 => absurd c57 (by decide)) (fun c57 => ?_)
                   refine x_iconst (v := 0) d_Mo_run_60 (by decide) ?_
                   exact x_ireturn d_Mo_run_61 rfl (by first | rfl | decide) (hE2 hfb hrb))
                | (have hrb : rnBad X bb = true := by 
                     unfold rnBad
                     rw [bI_0 c46, Bool.not_false, Bool.or_true]
                   rw [show (1 : Int32) = bI true from rfl]
                   refine x_callV2 d_Mo_run_54 k_Mo_throwing l_Mo_145 v_Mo_throwing rfl s_Mo_throwing (by exact hM.1) RoomE.m (Nat.le_of_ble_eq_true rfl) (c_Mo_throwing (a := false) (b := true) hM ?_)
                   refine x_if_eq (tgt := 62) d_Mo_run_57 (by decide) (fun c57 => absurd c57 (by decide)) (fun c57 => ?_)
                   refine x_iconst (v := 0) d_Mo_run_60 (by decide) ?_
                   exact x_ireturn d_Mo_run_61 rfl (by first | rfl | decide) (hE2 hfb hrb))
                | (have hrb : rnBad X bb = false := by 
                     have h1 : kG X ≠ [] := fun z => c28 (by rw [z]; rfl)
                     unfold rnBad
                     rw [bI_n0 c46, decide_eq_false h1, Bool.or_false, Bool.not_true, Bool.or_false]
                     first
                     | (rw [bI_0 c32]; rfl)
                     | (have h0 : 0 < tN (kR X) := of_decide_eq_true (bI_n0 c39)
                        rw [decide_eq_false (show ¬ tN (kR X) = 0 by omega), Bool.and_false])
                   rw [show (0 : Int32) = bI false from rfl]
                   refine x_callV2 d_Mo_run_54 k_Mo_throwing l_Mo_145 v_Mo_throwing rfl s_Mo_throwing (by exact hM.1) RoomE.m (Nat.le_of_ble_eq_true rfl) (c_Mo_throwing (a := false) (b := false) hM ?_)
                   refine x_if_eq (tgt := 62) d_Mo_run_57 (by decide) (fun c57 => ?_) (fun c57 => absurd rfl c57)
                   exact Wq.fg (hK k hk5 rfl hfb hrb) lsub_rf)
              · refine x_iconst (v := 1) d_Mo_run_49 (by decide) ?_
                refine x_goto (tgt := 54) d_Mo_run_50 (by decide) ?_
                first
                | (have hrb : rnBad X bb = true := by 
                     have : kG X = [] := List.length_eq_zero_iff.mp (nI_inj (b := 0) (c28.trans nI_0.symm) (by omega) (by omega))
                     unfold rnBad
                     rw [decide_eq_true this, Bool.or_true, Bool.true_or]
                   rw [show (1 : Int32) = bI true from rfl]
                   refine x_callV2 d_Mo_run_54 k_Mo_throwing l_Mo_145 v_Mo_throwing rfl s_Mo_throwing (by exact hM.1) RoomE.m (Nat.le_of_ble_eq_true rfl) (c_Mo_throwing (a := false) (b := true) hM ?_)
                   refine x_if_eq (tgt := 62) d_Mo_run_57 (by decide) (fun c57 => absurd c57 (by decide)) (fun c57 => ?_)
                   refine x_iconst (v := 0) d_Mo_run_60 (by decide) ?_
                   exact x_ireturn d_Mo_run_61 rfl (by first | rfl | decide) (hE2 hfb hrb))
                | (have hrb : rnBad X bb = true := by 
                     have h0 : ¬ 0 < tN (kR X) := of_decide_eq_false (bI_0 c39)
                     unfold rnBad
                     rw [bI_n0 c32, decide_eq_true (show tN (kR X) = 0 by omega)]
                     rfl
                   rw [show (1 : Int32) = bI true from rfl]
                   refine x_callV2 d_Mo_run_54 k_Mo_throwing l_Mo_145 v_Mo_throwing rfl s_Mo_throwing (by exact hM.1) RoomE.m (Nat.le_of_ble_eq_true rfl) (c_Mo_throwing (a := false) (b := true) hM ?_)
                   refine x_if_eq (tgt := 62) d_Mo_run_57 (by decide) (fun c57 => absurd c57 (by decide)) (fun c57 => ?_)
                   refine x_iconst (v := 0) d_Mo_run_60 (by decide) ?_
                   exact x_ireturn d_Mo_run_61 rfl (by first | rfl | decide) (hE2 hfb hrb))
                | (have hrb : rnBad X bb = true := by 
                     unfold rnBad
                     rw [bI_0 c46, Bool.not_false, Bool.or_true]
                   rw [show (1 : Int32) = bI true from rfl]
                   refine x_callV2 d_Mo_run_54 k_Mo_throwing l_Mo_145 v_Mo_throwing rfl s_Mo_throwing (by exact hM.1) RoomE.m (Nat.le_of_ble_eq_true rfl) (c_Mo_throwing (a := false) (b := true) hM ?_)
                   refine x_if_eq (tgt := 62) d_Mo_run_57 (by decide) (fun c57 => absurd c57 (by decide)) (fun c57 => ?_)
                   refine x_iconst (v := 0) d_Mo_run_60 (by decide) ?_
                   exact x_ireturn d_Mo_run_61 rfl (by first | rfl | decide) (hE2 hfb hrb))
                | (have hrb : rnBad X bb = false := by 
                     have h1 : kG X ≠ [] := fun z => c28 (by rw [z]; rfl)
                     unfold rnBad
                     rw [bI_n0 c46, decide_eq_false h1, Bool.or_false, Bool.not_true, Bool.or_false]
                     first
                     | (rw [bI_0 c32]; rfl)
                     | (have h0 : 0 < tN (kR X) := of_decide_eq_true (bI_n0 c39)
                        rw [decide_eq_false (show ¬ tN (kR X) = 0 by omega), Bool.and_false])
                   rw [show (0 : Int32) = bI false from rfl]
                   refine x_callV2 d_Mo_run_54 k_Mo_throwing l_Mo_145 v_Mo_throwing rfl s_Mo_throwing (by exact hM.1) RoomE.m (Nat.le_of_ble_eq_true rfl) (c_Mo_throwing (a := false) (b := false) hM ?_)
                   refine x_if_eq (tgt := 62) d_Mo_run_57 (by decide) (fun c57 => ?_) (fun c57 => absurd rfl c57)
                   exact Wq.fg (hK k hk5 rfl hfb hrb) lsub_rf)
    · have hfb : fuBad f = true := by unfold fuBad; rw [if_neg c2, if_neg (show ¬ f ≤ 500 from c9)]
      refine x_iconst (v := 1) d_Mo_run_12 (by decide) ?_
      refine x_goto (tgt := 17) d_Mo_run_13 (by decide) ?_
      rw [show (1 : Int32) = bI true from rfl]
      refine x_istore_n d_Mo_run_17 rfl rfl ?_
      first | refine x_aload_n d_Mo_run_18 rfl rfl ?_ | refine x_aloadN_n d_Mo_run_18 rfl rfl ?_ | refine x_aloadE_n d_Mo_run_18 rfl rfl ?_ | refine x_aloadO_n d_Mo_run_18 rfl rfl ?_
      refine x_iload_n d_Mo_run_19 rfl rfl ?_
      refine x_iload_n d_Mo_run_20 rfl rfl ?_
      refine x_if_ne (tgt := 53) d_Mo_run_21 (by decide) (fun c21 => ?_) (fun c21 => ?_)
      · refine x_iconst (v := 0) d_Mo_run_53 (by decide) ?_
        rw [show (0 : Int32) = bI false from rfl]
        refine x_callV2 d_Mo_run_54 k_Mo_throwing l_Mo_145 v_Mo_throwing rfl s_Mo_throwing (by first | exact hM.1 | exact hM.s rfl | assumption) RoomE.m (Nat.le_of_ble_eq_true rfl) (c_Mo_throwing (a := true) (b := false) hM ?_)
        refine x_if_eq (tgt := 62) d_Mo_run_57 (by decide) (fun c57 => absurd c57 (by decide)) (fun c57 => ?_)
        refine x_iconst (v := 0) d_Mo_run_60 (by decide) ?_
        exact x_ireturn d_Mo_run_61 rfl (by first | rfl | decide) (hE1 hfb)
      · exact absurd c21 (by decide)
set_option maxRecDepth 10000 in
set_option maxHeartbeats 1000000 in
theorem c_Mo_run_f {G : Ctx} {d : Nat} {Γ : List Sh} {σ : Mem} {Q : Option Value → List Sh → Mem → Prop} {X : CS} {f : Int32} (hM : MoS Γ σ) (hX : isMC σ X) (hT : isMT σ X) (hW : csW X) (hE1 : fuBad f = true → Q (some (.int 0)) Γ (wI σ 391 0 1)) (hE2 : fuBad f = false → rnBad X false = true → Q (some (.int 0)) Γ (wI σ 391 0 2)) (hQ : ∀ k, k ≤ 500 → f = nI k → fuBad f = false → rnBad X false = false → ∀ σ', isMC σ' (csRn X (runS X k)) → trU σ σ' → FrM σ σ' → σ'.1 391 0 = 0 → ((runS X k).1 = 0 → al kA (runS X k).2.2 ∧ (runS X k).2.2.length ≤ 200) → Q (some (.int (runS X k).1)) Γ σ') : Ct G M_Mo_run (d + 6) 0 0 [rf G 391, .int (bI false), .int f] Γ σ Q := by
  refine run_h hM hX hT hW hE1 hE2 (fun k hk5 ef hfb hrb => ?_)
  obtain ⟨_, hg0, hai⟩ := rn_g hrb
  have hM0 : MoS Γ (wI σ 391 0 0) := hM.w
  have hX0 : isMC (wI σ 391 0 0) X := hX.w0
  have hS := hW.2.1
  have hgt := hW.2.2.2.1.2 hg0
  have hgl := hW.2.2.2.1.1
  have hI0 : tmq (nP (sgP (kP X))) (gA (kP X) 0) ((kG X).flatMap (inpS (kI X))) := by
    refine inp_tm hW ⟨hgt.1, fun s hs => ?_⟩ (A := fun k => gA (kP X) 8 k ∧ nI k ∈ kG X) (fun q hq z => ?_) (fun q hq => Or.inr (Or.inl hq))
    · obtain ⟨q, h1, h2, h3⟩ := hgt.2 s hs
      exact ⟨q, h1, h2, h3, by rw [← h2]; exact hs⟩
    · obtain ⟨z1, z2⟩ := z
      unfold gA at z1
      rcases z1 with z1 | z1 | z1
      · exact Or.inl ⟨z1.1, aInp_v hai z1.1 z2⟩
      · exact Or.inr ⟨z1.1, Or.inr (Or.inl z1)⟩
      · exact Or.inr ⟨by omega, Or.inr (Or.inr z1)⟩
  have hil := inp_len hW hW.gl
  refine x_aload_n d_Mo_run_62 rfl rfl ?_
  refine x_iload_n d_Mo_run_63 rfl rfl ?_
  refine x_callV1 d_Mo_run_64 k_Mo_begin l_Mo_288 v_Mo_begin rfl s_Mo_begin (by exact hM.1) RoomE.m (Nat.le_of_ble_eq_true rfl) (c_Mo_begin (bb := false) (src := kG X) hM0 hX0 hW (by omega) hW.gl (fun z => by cases z) (fun _ => ⟨hX0.2.2.2.1.1, hgl, hX0.2.2.2.1.2⟩) (fun τ f1 f2 hr => ?_))
  have f0 : rFr (wI σ 391 0 0) τ := ⟨f1.mono (by simp), fun j h30 _ _ => f2 j h30⟩
  refine run_g (pt := kP X) (cs := kC X) (Inv := fun y => tmq (nP (sgP (kP X))) (gA (kP X) 0) y) (uf := ufs (kC X) (fun s x => (sB (kB X) s x).map (fun i => 33 + 2 + 2 * i))) (ul := uL (kP X) (kC X) (kB X)) (R := runS X k) hM0 hk5 hS.ok (fun τ y g1 g2 g3 g4 => rwO_s hS (hX0.2.1.r g1) g2 g3 g4) (fun τ y a g1 g2 g3 g4 g5 Q' h1 h2 => ?_) (fun τ y a g1 g2 g3 g4 g5 g6 Q' h1 => ?_) (fun y g1 g2 s hs => ?_) (fun τ2 q1 q2 q3 q4 q5 => hQ k hk5 ef hfb hrb τ2 (hX0.run q1 q2 q3 q4 (fun z => (q5 z).2)) (trU.w0.tr ⟨fun a h1 h2 => q1.2 a (by simp; omega), q2 11 (by decide) (by decide) (by decide) (by decide), q2 13 (by decide) (by decide) (by decide) (by decide)⟩) ((FrM.rf.w (by omega) (by omega)).tr (q1.M (by simp))) (by rw [q2 0 (by decide) (by decide) (by decide) (by decide), wI_s]) (fun z => (q5 z).1)) f0 hr hI0 (by omega) rfl
  · obtain ⟨f, hC⟩ := cSr_s hW (hX0.2.1.r g1) (hX0.2.2.1.r g1) g2 g3 g4 g5
    have hf := hC.2.2.1
    exact c_Mo_bodyOf_s (hM0.fr g1.1) hC h1 (fun z c hc _ _ => h2 z _ (by omega))
  · obtain ⟨f, hC⟩ := cSr_s hW (hX0.2.1.r g1) (hX0.2.2.1.r g1) g2 g3 g4 g5
    obtain ⟨ha, hCa⟩ := nxc_at g5
    refine c_Mo_unfold_s (hM0.fr g1.1) hC (by omega) (g3.mono (fun q _ z => z.elim (fun y => absurd y.1 (by omega)) Or.inr)) g6 (fun τ' a1 a2 => ?_)
    have hle := sBd_le hC g6
    have hul : (uL (kP X) (kC X) (kB X) y a).length ≤ y.length * (sBd (kB X) (y.getD a (-1)) (caf (kC X) y a)).length + 2 * y.length := unf_len (by omega)
    have hmm : y.length * (sBd (kB X) (y.getD a (-1)) (caf (kC X) y a)).length ≤ 200 * 24 := Nat.mul_le_mul g4 hle
    exact h1 _ ((a1.mono (by simp)).put (by simp)) (fun j hj => by rw [wI_j hj, a1.2 391 (by simp)]) ⟨wI_s, fun i hi => by rw [wI_o (by decide)]; exact a2 i hi⟩ (uL_tm hS hW.2.2.1 (by omega) g3 ha hCa g6) (by omega)
  · obtain ⟨q, hq, rfl, hg⟩ := g1.2 s hs
    have := nxc_none g2 _ hs
    rw [isC_n (by omega)] at this
    have := of_decide_eq_false this
    refine ⟨q, hq, rfl, ?_⟩
    unfold gA at hg
    unfold kA
    omega
set_option maxRecDepth 10000 in
set_option maxHeartbeats 1000000 in
theorem c_Mo_run_t {G : Ctx} {d : Nat} {Γ : List Sh} {σ : Mem} {Q : Option Value → List Sh → Mem → Prop} {X : CS} {f : Int32} (hM : MoS Γ σ) (hX : isMC σ X) (hT : isMT σ X) (hW : csW X) (hE1 : fuBad f = true → Q (some (.int 0)) Γ (wI σ 391 0 1)) (hE2 : fuBad f = false → rnBad X true = true → Q (some (.int 0)) Γ (wI σ 391 0 2)) (hQ : ∀ k, k ≤ 500 → f = nI k → fuBad f = false → rnBad X true = false → ∀ σ', isMC σ' (csRn X (runT X k)) → trU σ σ' → FrM σ σ' → σ'.1 391 0 = 0 → ((runT X k).1 = 0 → al kA (runT X k).2.2 ∧ (runT X k).2.2.length ≤ 200) → Q (some (.int (runT X k).1)) Γ σ') : Ct G M_Mo_run (d + 6) 0 0 [rf G 391, .int (bI true), .int f] Γ σ Q := by
  refine run_h hM hX hT hW hE1 hE2 (fun k hk5 ef hfb hrb => ?_)
  obtain ⟨hN, hg0, hai⟩ := rn_g hrb
  have hM0 : MoS Γ (wI σ 391 0 0) := hM.w
  have hX0 : isMC (wI σ 391 0 0) X := hX.w0
  obtain ⟨pt0, cs0, T, hO1⟩ := hT.2 (hN rfl)
  have hO := hO1.tr (τ := wI σ 391 0 0) trU.w0
  obtain ⟨o1, hWF, hG, h8, hP, hcs, hI, hRt, hF, hrs⟩ := id hO
  have hNT : 0 < tN T := by have := hN rfl; rw [hI.1.1] at this; exact this
  have hS := hW.2.1
  have hgt := hW.2.2.2.1.2 hg0
  obtain ⟨r1, r2, r3⟩ := hI.2.2.2 0 (by omega) hNT
  have r3 := r3 h8.2.2
  have e100 : r100 (kR X) 0 = nrs (tD (kR X) 0) := List.take_of_length_le r1
  have hrv : ∀ j, j < 100 → nI j ∈ tmn T 0 → j < 8 ∧ 0 < (kI X j).length := fun j hj hm => by
    rw [h8.2.1] at hm
    obtain ⟨q, h1, h2, h3⟩ := hgt.2 _ hm
    have : j = q := nI_inj h2 (by omega) (by omega)
    subst this
    have hj8 : j < 8 := by unfold gA at h3; omega
    exact ⟨hj8, aInp_v hai hj8 hm⟩
  have hI0 : tmq (nP (sgP (kP X))) (rA0 T) ((r100 (kR X) 0).flatMap (inpS (kI X))) := by
    rw [e100]
    refine inp_tm hW r3 (fun q hq z => ?_) (fun q hq => Or.inl hq)
    rcases z with z | z | z | z
    · exact Or.inl (hrv q z.1 z.2)
    · exact Or.inr ⟨z.1, Or.inl z⟩
    · exact Or.inr ⟨by obtain ⟨m, _, _, e⟩ := z; omega, Or.inr (Or.inl z)⟩
    · exact Or.inr ⟨by omega, Or.inr (Or.inr z)⟩
  have hsg : ∀ s ∈ r100 (kR X) 0, sgB s := fun s hs => by
    rw [e100] at hs
    obtain ⟨q, hq, e, z⟩ := r3.2 s hs
    refine ⟨q, hq, e, ?_⟩
    rcases z with z | z | z | z
    · exact Or.inl (hrv q z.1 z.2).1
    · omega
    · obtain ⟨m, _, _, e⟩ := z; omega
    · omega
  have hil := inp_len hW hsg
  have hl1 : (r100 (kR X) 0).length ≤ 100 := by rw [e100]; exact r1
  have hst := hrs 0 (by omega) hNT h8.2.2
  refine x_aload_n d_Mo_run_62 rfl rfl ?_
  refine x_iload_n d_Mo_run_63 rfl rfl ?_
  refine x_callV1 d_Mo_run_64 k_Mo_begin l_Mo_288 v_Mo_begin rfl s_Mo_begin (by exact hM.1) RoomE.m (Nat.le_of_ble_eq_true rfl) (c_Mo_begin (bb := true) (src := r100 (kR X) 0) hM0 hX0 hW hl1 hsg (fun _ => by rw [e100]; exact hst) (fun z => by cases z) (fun τ f1 f2 hr => ?_))
  have f0 : rFr (wI σ 391 0 0) τ := ⟨f1.mono (by simp), fun j h30 _ _ => f2 j h30⟩
  have hN0 : ∀ τ y, rFr (wI σ 391 0 0) τ → Rw τ y → tmq (nP (sgP (kP X))) (rA0 T) y → y.length ≤ 200 → rwO τ (kP X) (kC X) y := fun τ y g1 g2 g3 g4 => ⟨g2.1, g2.2, by omega, g3.1, fun s hs => by
    obtain ⟨q, hq, rfl, hg⟩ := g3.2 s hs
    exact sOK_r (hO.tr g1.u) hS hg⟩
  have hC0 : ∀ τ y a, rFr (wI σ 391 0 0) τ → Rw τ y → tmq (nP (sgP (kP X))) (rA0 T) y → y.length ≤ 200 → nxc (sgC (kC X)) y = some a → cRr τ X pt0 cs0 T y a ∧ ufs (kC X) (rBody (kR X)) y a = (rNode (kR X) (y.getD a (-1)) (caf (kC X) y a)).isSome := fun τ y a g1 g2 g3 g4 g5 => by
    obtain ⟨ha, hCa⟩ := nxc_at g5
    have hnot := nxc_not g5
    refine ⟨⟨hN0 τ y g1 g2 g3 g4, ha, hCa, hnot, g3, hO.tr g1.u, hS⟩, ufs_r (fun z => ?_)⟩
    have h48 := hWF.1.1
    rcases rcall hO hS g3 ha hCa hnot with ⟨e1, _, e3⟩ | ⟨m, hm, hf, ek, hk⟩
    · rw [e1, sgC_n (by omega), e3] at z; cases z
    · rw [ek, sgC_n (by omega)] at z
      rcases hk with hk | ⟨_, _, _, c, b, k, hc6, _, ec, _⟩
      · rw [hk.2.1] at z; cases z
      · rw [ec]; exact nI_nm1 (by omega)
  refine run_g (pt := kP X) (cs := kC X) (Inv := fun y => tmq (nP (sgP (kP X))) (rA0 T) y) (uf := ufs (kC X) (rBody (kR X))) (ul := rL (kP X) (kC X) (kR X)) (R := runT X k) hM0 hk5 hS.ok hN0 (fun τ y a g1 g2 g3 g4 g5 Q' h1 h2 => ?_) (fun τ y a g1 g2 g3 g4 g5 g6 Q' h1 => ?_) (fun y g1 g2 s hs => ?_) (fun τ2 q1 q2 q3 q4 q5 => hQ k hk5 ef hfb hrb τ2 (hX0.run q1 q2 q3 q4 (fun z => (q5 z).2)) (trU.w0.tr ⟨fun a h1 h2 => q1.2 a (by simp; omega), q2 11 (by decide) (by decide) (by decide) (by decide), q2 13 (by decide) (by decide) (by decide) (by decide)⟩) ((FrM.rf.w (by omega) (by omega)).tr (q1.M (by simp))) (by rw [q2 0 (by decide) (by decide) (by decide) (by decide), wI_s]) (fun z => (q5 z).1)) f0 hr hI0 (by omega) rfl
  · obtain ⟨hC, hu⟩ := hC0 τ y a g1 g2 g3 g4 g5
    have h48 := hWF.1.1
    refine c_Mo_bodyOf_r (hM0.fr g1.1) hC (fun z => h1 (by rw [hu, z]; rfl)) (fun q z => h2 (by rw [hu, z]; rfl) q ?_)
    obtain ⟨m, ins, w, d1, d2, d3, d4, d5, d6, d7, d8, d9, d10, _⟩ := rdata hC z
    omega
  · obtain ⟨hC, hu⟩ := hC0 τ y a g1 g2 g3 g4 g5
    obtain ⟨ha, hCa⟩ := nxc_at g5
    rw [hu] at g6
    obtain ⟨q, hq⟩ := Option.isSome_iff_exists.mp g6
    obtain ⟨m, ins, w, d1, d2, d3, d4, d5, d6, d7, d8, d9, d10, d11, d12, d13, d14, d15, d16⟩ := rdata hC hq
    refine c_Mo_unfold_r (hM0.fr g1.1) hC g4 hq (fun τ' a1 a2 => ?_)
    have hle : (rBs (kR X) (y.getD a (-1)) (caf (kC X) y a)).length ≤ 100 := by rw [d15]; exact (hI.2.2.2 q (by omega) d10).1
    have hul : (rL (kP X) (kC X) (kR X) y a).length ≤ y.length * (rBs (kR X) (y.getD a (-1)) (caf (kC X) y a)).length + 2 * y.length := unf_len (by omega)
    have hmm : y.length * (rBs (kR X) (y.getD a (-1)) (caf (kC X) y a)).length ≤ 200 * 100 := Nat.mul_le_mul g4 hle
    exact h1 _ ((a1.mono (by simp)).put (by simp)) (fun j hj => by rw [wI_j hj, a1.2 391 (by simp)]) ⟨wI_s, fun i hi => by rw [wI_o (by decide)]; exact a2 i hi⟩ (rL_tm hC hq) (by omega)
  · obtain ⟨q, hq, rfl, hg⟩ := g1.2 s hs
    have := nxc_none g2 _ hs
    rw [isC_n (by omega)] at this
    have := of_decide_eq_false this
    refine ⟨q, hq, rfl, ?_⟩
    rcases hg with z | ⟨m, _, _, z⟩ | z
    · exact z
    · omega
    · omega
