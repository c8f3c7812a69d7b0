/-! SuperDriverModel: turn -/
def tuS : List Nat := [391, 400, 401, 402, 403, 404, 405, 406, 407, 408, 409, 415, 416, 417, 418, 419, 420, 421, 422, 423, 424]
def tuF (j : Nat) : Prop := j ≠ 12 ∧ j ≠ 13 ∧ j ≠ 14 ∧ j ≠ 30 ∧ j ≠ 38 ∧ j ≠ 40
/-- what stl is, for a node that is to be settled -/
theorem stl_leaf {pt : Nat → Int32} {cs : Nat → Bool} {bd : Nat → List Int32} {T : TS} {n : Nat} {S : GS} (hW : WF pt T none) (hn : n < tN T) (h8 : kd T n = 8) (hC : isC ((tmn T n).getD 0 (-1)) = false) : (stl pt cs bd T n S).2 = if nP (sgP pt) ((tmn T n).getD 0 (-1)) = 0 then tUp T n (nBecome (tD T n) 1 (-1)) else tBld (sgP pt) n (tmn T n) false (nP (sgP pt) ((tmn T n).getD 0 (-1))) 1 (tUp T n (nBecome (tD T n) 2 ((tmn T n).getD 0 (-1) - 100))) := by
  unfold stl
  rw [if_pos ⟨hn, h8, hW.2.1⟩, hW.t40 hn, if_neg (by rw [hC]; decide)]
  unfold tSwc
  rw [hW.t40 hn, decide_eq_false (show ¬ 40 < (ntm (tD T n)).length by have := (hW.1.2.2 n hn).1; omega)]
theorem stl_call {pt : Nat → Int32} {cs : Nat → Bool} {bd : Nat → List Int32} {T : TS} {n a : Nat} {S : GS} (hW : WF pt T none) (hn : n < tN T) (h8 : kd T n = 8) (hC : isC ((tmn T n).getD 0 (-1)) = true) (hx : nxc (sgC cs) (tmn T n) = some a) : (stl pt cs bd T n S).2 = if uF cs bd (tmn T n) a = false ∧ (sgC cs ((tmn T n).getD a (-1)) && isV ((tmn T n).getD (a + 1) (-1))) = false then tUp T n (nBecome (tD T n) 5 (-1)) else match renR T (uF cs bd (tmn T n) a) n with
    | some u => tUp T n (xr (nBecome (tD T n) 6 (nI u)) 9 (some u))
    | none => match embR (sgP pt) T (uF cs bd (tmn T n) a) n with
      | some u => (tGen (sgP pt) T n u S).2
      | none => if uF cs bd (tmn T n) a = true then tStep pt cs bd T n a else tSplit pt cs bd T n a := by
  unfold stl uF
  rw [if_pos ⟨hn, h8, hW.2.1⟩, hW.t40 hn, if_pos hC, hx]
  simp only []
  generalize ufs cs (fun s x => (sB bd s x).map (fun i => 33 + 2 + 2 * i)) (tmn T n) a = g
  by_cases h : g = false ∧ (sgC cs ((tmn T n).getD a (-1)) && isV ((tmn T n).getD (a + 1) (-1))) = false
  · rw [if_pos h, if_pos h]
  · rw [if_neg h, if_neg h]
    cases renR T g n with
    | some u => rfl
    | none =>
      simp only []
      cases embR (sgP pt) T g n with
      | some u => rfl
      | none =>
        simp only []
        by_cases hu : g = true
        · rw [if_pos hu, if_pos hu]
        · rw [if_neg hu, if_neg hu]
theorem nxc_not {cs : Int32 → Bool} : ∀ {zs : List Int32} {a : Nat}, nxc cs zs = some a → (cs (zs.getD a (-1)) && isC (zs.getD (a + 1) (-1))) = false
  | [], a, h => by cases h
  | x :: l, a, h => by
    rw [nxc_c] at h
    split at h
    · next z =>
      cases h
      have := (Bool.and_eq_true_iff.mp z).2
      have e : (x :: l).getD (0 + 1) (-1) = l.getD 0 (-1) := rfl
      rw [e]
      exact (Bool.not_eq_true' _).mp this
    · rcases e : nxc cs l with _ | r
      · rw [e] at h; cases h
      · rw [e] at h
        have : a = r + 1 := (Option.some.inj h).symm
        rw [this]
        show (cs (l.getD r (-1)) && isC (l.getD (r + 1) (-1))) = false
        exact nxc_not e
/-- one node becomes another, with nothing below -/
theorem Rt.one {pt : Nat → Int32} {σ σ' : Mem} {T : TS} {n : Nat} {x : ND} (hR : Rt σ T none) (hW : WF pt T none) (hn : n < tN T) (ht : ntm x = tmn T n) (h3 : x.2.1 3 = lkn T n 3) (h6 : x.2.1 6 = lkn T n 6) (h11 : x.1 11 = (tD T n).1 11) (h12 : x.1 12 = (tD T n).1 12) (hf : FrI [391, 400, 404, 405, 406, 407] σ σ') (h391 : ∀ j, j = 12 ∨ j = 13 ∨ j = 14 → σ'.1 391 j = σ.1 391 j) (hk : ∀ j, j ≠ n → σ'.1 400 j = σ.1 400 j ∧ σ'.1 404 j = σ.1 404 j ∧ σ'.1 405 j = σ.1 405 j ∧ σ'.1 406 j = σ.1 406 j ∧ σ'.1 407 j = σ.1 407 j) (h0 : σ'.1 400 n = x.1 7) (h4 : x.1 7 ≠ 0 → x.1 7 ≠ 2 → σ'.1 404 n = x.1 8) (h8 : x.1 7 ≠ 8) (hno : ¬ (x.1 7 = 2 ∨ x.1 7 = 3 ∨ x.1 7 = 4 ∨ x.1 7 = 7)) : Rt σ' (tUp T n x) none := by
  refine (hR.hole.set hW.hole hn ht h3 h6 h11 h12 hf h391 hk h0 h4 h8).close (fun z => absurd ?_ hno)
  unfold kd at z
  rw [tD_up] at z
  exact z
set_option maxRecDepth 10000 in
set_option maxHeartbeats 1000000 in
theorem c_Mo_turn_l {G : Ctx} {d : Nat} {Γ : List Sh} {σ : Mem} {Q : Option Value → List Sh → Mem → Prop} {X : CS} {T : TS} {n : Nat} {S : GS} (hM : MoS Γ σ) (hX : SW (kP X) (kC X) ∧ BdW (kP X) (kC X) (kB X) ∧ mBd σ X ∧ mFn σ X) (hR : Rt σ T none) (hW : WF (kP X) T none) (hn : n < tN T) (h8 : kd T n = 8) (hQ : ∀ τ, FrI tuS σ τ → (∀ j, tuF j → τ.1 391 j = σ.1 391 j) → (tG (stl (kP X) (kC X) (kB X) T n S).2 = true → gW τ) → (tG (stl (kP X) (kC X) (kB X) T n S).2 = false → Rt τ (stl (kP X) (kC X) (kB X) T n S).2 none) → Q none Γ τ) (hC : isC ((tmn T n).getD 0 (-1)) = false) : Ct G M_Mo_turn (d + 7) 0 0 [rf G 391, .int (nI n)] Γ σ Q := by
  obtain ⟨hS, hB, hMB, hFn⟩ := id hX
  have hn48 : n < 48 := by have := hW.1.1; omega
  have hp : ∀ f, f < 8 → σ.1 393 f = kP X (200 + f) := fun f hf => (hFn f hf).1
  have htz : tmq (nP (sgP (kP X))) (gA (kP X) (tV T)) (tmn T n) := (hW.2.2 n hn).1.1
  have hz0 := full_ne htz.1
  have hzl : (tmn T n).length ≤ 40 := (hW.1.2.2 n hn).1
  obtain ⟨k, hk4, ek, hgk⟩ := htz.2.getD hz0
  have hk200 : k < 200 := by
    rw [ek, isC_n (by omega)] at hC
    have := of_decide_eq_false hC
    omega
  have hst := stl_leaf (pt := kP X) (cs := kC X) (bd := kB X) (S := S) hW hn h8 hC
  have hbO : 100 ≤ k → bO (nI k) = nI (nP (sgP (kP X)) (nI k)) := fun h1 => by
    have := (hS.ok.1.le (nI k)).2
    rw [← this, ← mPk_eq hS hp (by omega) (by unfold gA at hgk; omega)]
    unfold mPk
    rw [if_neg (by omega), if_neg (by omega), if_pos hk200]

  refine Ct.of (lv := [some (rf G 391), some (.int (nI n)), none, none, none, none, none]) (ll := []) rfl rfl (EN.cat (n := 5) ⟨rfl, rfl, trivial⟩ (Nat.le_of_ble_eq_true rfl)) ?_
  first | refine x_aload_n d_Mo_turn_0 rfl rfl ?_ | refine x_aloadN_n d_Mo_turn_0 rfl rfl ?_ | refine x_aloadE_n d_Mo_turn_0 rfl rfl ?_ | refine x_aloadO_n d_Mo_turn_0 rfl rfl ?_
  refine x_getR d_Mo_turn_1 f_Mo_41 rfl (by first | exact hM.1 | exact hM.s rfl | assumption) (hM.r rfl) ?_
  refine x_bipush (v := 40) d_Mo_turn_4 (by decide) ?_
  refine x_iload_n d_Mo_turn_6 rfl rfl ?_
  refine x_imul d_Mo_turn_7 ?_
  refine Wq.top (y := nI (40 * n + 0)) (by rw [mul40]; rfl) ?_
  refine x_iald d_Mo_turn_8 (by first | exact hM.1 | exact hM.s rfl | assumption) (vp_in_nI (show 40 * n + 0 < 1920 by omega) (by decide)) ?_
  rw [nI_clamp (by omega), (hR.2.2.2 n hn).1.2.2.1.2 0 hz0, ek]
  refine x_istore_n d_Mo_turn_9 rfl rfl ?_
  refine x_iload_n d_Mo_turn_10 rfl rfl ?_
  refine x_bipush (v := 100) d_Mo_turn_11 (by decide) ?_
  refine x_icmp_lt (tgt := 30) d_Mo_turn_13 (by decide) (fun c13 => ?_) (fun c13 => ?_)
  · have hp0 : nP (sgP (kP X)) ((tmn T n).getD 0 (-1)) = 0 := by
      rw [ek]
      first
      | exact hS.v ((nI_ltI (by omega) (by decide)).mp (show nI k < nI 100 from c13))
      | exact (nI_z (by have := (hS.ok.1.le (nI k)).1; omega)).mp c27
    first | refine x_aload_n d_Mo_turn_30 rfl rfl ?_ | refine x_aloadN_n d_Mo_turn_30 rfl rfl ?_ | refine x_aloadE_n d_Mo_turn_30 rfl rfl ?_ | refine x_aloadO_n d_Mo_turn_30 rfl rfl ?_
    refine x_iload_n d_Mo_turn_31 rfl rfl ?_
    refine x_iconst (v := 1) d_Mo_turn_32 (by decide) ?_
    refine x_callV2 d_Mo_turn_33 k_Mo_becomes l_Mo_201 v_Mo_becomes rfl s_Mo_becomes (by first | exact hM.1 | exact hM.s rfl | assumption) RoomE.m (Nat.le_of_ble_eq_true rfl) (c_Mo_becomes hM hn48 ?_)
    exact x_return d_Mo_turn_36 rfl (hQ _ ((FrI.rf.put (by simp [tuS])).put (by simp [tuS])) (fun j _ => by rw [wI_o (by decide), wI_o (by decide)]) (fun z => absurd z (by rw [hst, if_pos hp0]; show ¬ tG T = true; rw [hW.2.1]; decide)) (fun _ => by
      rw [hst, if_pos hp0]
      exact (Rt.one (pt := kP X) hR hW hn rfl rfl rfl rfl rfl ((FrI.rf.put (by simp)).put (by simp)) (fun j _ => by rw [wI_o (by decide), wI_o (by decide)]) (fun j hj => ⟨by rw [wI_o (by decide), wI_j hj], by rw [wI_o (by decide), wI_o (by decide)], by rw [wI_j hj, wI_o (by decide)], by rw [wI_o (by decide), wI_o (by decide)], by rw [wI_o (by decide), wI_o (by decide)]⟩) (by rw [wI_o (by decide), wI_s]; rfl) (fun _ _ => by rw [wI_o (by decide), wI_o (by decide)]; exact ((hR).2.2.2 n hn).1.2.2.2.1 (by rw [h8]; decide) (by rw [h8]; decide) |>.trans (show dt T n = -1 from (hW.2.2 n hn).1.2.2.2.2.2.2.2.2.2 (by right; right; right; right; exact h8))) (by show (1 : Int32) ≠ 8; decide) (by show ¬ ((1 : Int32) = 2 ∨ (1 : Int32) = 3 ∨ (1 : Int32) = 4 ∨ (1 : Int32) = 7); decide))))
  · refine x_iload_n d_Mo_turn_16 rfl rfl ?_
    refine x_sipush (v := 200) d_Mo_turn_17 (by decide) ?_
    refine x_icmp_ge (tgt := 37) d_Mo_turn_20 (by decide) (fun c20 => ?_) (fun c20 => ?_)
    · refine x_iload_n d_Mo_turn_37 rfl rfl ?_
      refine x_sipush (v := 200) d_Mo_turn_38 (by decide) ?_
      refine x_icmp_ge (tgt := 50) d_Mo_turn_41 (by decide) (fun c41 => ?_) (fun c41 => ?_)
      · exact absurd (show nI 200 ≤ nI k from c41) (nI_ge hk200 (by decide))
      · have hnp : ¬ nP (sgP (kP X)) ((tmn T n).getD 0 (-1)) = 0 := by
          rw [ek]
          first
          | exact fun z => c27 (by rw [z, nI_0])
          | (exfalso
             have h1 : 200 ≤ k := (nI_leI (by decide) (by omega)).mp (show nI 200 ≤ nI k from c20)
             exact absurd (nI_le h1 (by omega)) c41)
        first | refine x_aload_n d_Mo_turn_44 rfl rfl ?_ | refine x_aloadN_n d_Mo_turn_44 rfl rfl ?_ | refine x_aloadE_n d_Mo_turn_44 rfl rfl ?_ | refine x_aloadO_n d_Mo_turn_44 rfl rfl ?_
        refine x_iload_n d_Mo_turn_45 rfl rfl ?_
        refine x_callV1 d_Mo_turn_46 k_Mo_build l_Mo_237 v_Mo_build rfl s_Mo_build (by first | exact hM.1 | exact hM.s rfl | assumption) RoomE.m (Nat.le_of_ble_eq_true rfl) (c_Mo_build hM hS hp hR hW hn h8 (fun τ1 f1 o1 g1 g2 => ?_))
        exact x_return d_Mo_turn_49 rfl (hQ τ1 (f1.mono (by simp [tuS, trS])) (fun j hj => o1 j hj.1 hj.2.1) (by rw [hst, if_neg hnp]; exact g1) (by rw [hst, if_neg hnp]; exact g2))
    · refine x_iload_n d_Mo_turn_23 rfl rfl ?_
      skip
      refine x_callS1 d_Mo_turn_24 k_Mo_builtOf l_Mo_120 z_Mo_builtOf RoomE.m (Nat.le_of_ble_eq_true rfl) (c_Mo_builtOf ?_)
      rw [hbO (Nat.not_lt.mp fun z => c13 (show nI k < nI 100 from nI_lt z (by decide)))]
      refine x_if_ne (tgt := 37) d_Mo_turn_27 (by decide) (fun c27 => ?_) (fun c27 => ?_)
      · refine x_iload_n d_Mo_turn_37 rfl rfl ?_
        refine x_sipush (v := 200) d_Mo_turn_38 (by decide) ?_
        refine x_icmp_ge (tgt := 50) d_Mo_turn_41 (by decide) (fun c41 => ?_) (fun c41 => ?_)
        · exact absurd (show nI 200 ≤ nI k from c41) (nI_ge hk200 (by decide))
        · have hnp : ¬ nP (sgP (kP X)) ((tmn T n).getD 0 (-1)) = 0 := by
            rw [ek]
            first
            | exact fun z => c27 (by rw [z, nI_0])
            | (exfalso
               have h1 : 200 ≤ k := (nI_leI (by decide) (by omega)).mp (show nI 200 ≤ nI k from c20)
               exact absurd (nI_le h1 (by omega)) c41)
          first | refine x_aload_n d_Mo_turn_44 rfl rfl ?_ | refine x_aloadN_n d_Mo_turn_44 rfl rfl ?_ | refine x_aloadE_n d_Mo_turn_44 rfl rfl ?_ | refine x_aloadO_n d_Mo_turn_44 rfl rfl ?_
          refine x_iload_n d_Mo_turn_45 rfl rfl ?_
          refine x_callV1 d_Mo_turn_46 k_Mo_build l_Mo_237 v_Mo_build rfl s_Mo_build (by first | exact hM.1 | exact hM.s rfl | assumption) RoomE.m (Nat.le_of_ble_eq_true rfl) (c_Mo_build hM hS hp hR hW hn h8 (fun τ1 f1 o1 g1 g2 => ?_))
          exact x_return d_Mo_turn_49 rfl (hQ τ1 (f1.mono (by simp [tuS, trS])) (fun j hj => o1 j hj.1 hj.2.1) (by rw [hst, if_neg hnp]; exact g1) (by rw [hst, if_neg hnp]; exact g2))
      · have hp0 : nP (sgP (kP X)) ((tmn T n).getD 0 (-1)) = 0 := by
          rw [ek]
          first
          | exact hS.v ((nI_ltI (by omega) (by decide)).mp (show nI k < nI 100 from c13))
          | exact (nI_z (by have := (hS.ok.1.le (nI k)).1; omega)).mp c27
        first | refine x_aload_n d_Mo_turn_30 rfl rfl ?_ | refine x_aloadN_n d_Mo_turn_30 rfl rfl ?_ | refine x_aloadE_n d_Mo_turn_30 rfl rfl ?_ | refine x_aloadO_n d_Mo_turn_30 rfl rfl ?_
        refine x_iload_n d_Mo_turn_31 rfl rfl ?_
        refine x_iconst (v := 1) d_Mo_turn_32 (by decide) ?_
        refine x_callV2 d_Mo_turn_33 k_Mo_becomes l_Mo_201 v_Mo_becomes rfl s_Mo_becomes (by first | exact hM.1 | exact hM.s rfl | assumption) RoomE.m (Nat.le_of_ble_eq_true rfl) (c_Mo_becomes hM hn48 ?_)
        exact x_return d_Mo_turn_36 rfl (hQ _ ((FrI.rf.put (by simp [tuS])).put (by simp [tuS])) (fun j _ => by rw [wI_o (by decide), wI_o (by decide)]) (fun z => absurd z (by rw [hst, if_pos hp0]; show ¬ tG T = true; rw [hW.2.1]; decide)) (fun _ => by
          rw [hst, if_pos hp0]
          exact (Rt.one (pt := kP X) hR hW hn rfl rfl rfl rfl rfl ((FrI.rf.put (by simp)).put (by simp)) (fun j _ => by rw [wI_o (by decide), wI_o (by decide)]) (fun j hj => ⟨by rw [wI_o (by decide), wI_j hj], by rw [wI_o (by decide), wI_o (by decide)], by rw [wI_j hj, wI_o (by decide)], by rw [wI_o (by decide), wI_o (by decide)], by rw [wI_o (by decide), wI_o (by decide)]⟩) (by rw [wI_o (by decide), wI_s]; rfl) (fun _ _ => by rw [wI_o (by decide), wI_o (by decide)]; exact ((hR).2.2.2 n hn).1.2.2.2.1 (by rw [h8]; decide) (by rw [h8]; decide) |>.trans (show dt T n = -1 from (hW.2.2 n hn).1.2.2.2.2.2.2.2.2.2 (by right; right; right; right; exact h8))) (by show (1 : Int32) ≠ 8; decide) (by show ¬ ((1 : Int32) = 2 ∨ (1 : Int32) = 3 ∨ (1 : Int32) = 4 ∨ (1 : Int32) = 7); decide))))
theorem tuSd : tuS = [391, 400, 401, 402, 403, 404, 405, 406, 407, 408, 409, 415, 416, 417, 418, 419, 420, 421, 422, 423, 424] := rfl
theorem sBd_len {pt : Nat → Int32} {cs : Nat → Bool} {bd : Nat → List Int32} {s x : Int32} (h : BdW pt cs bd) : (sBd bd s x).length ≤ 24 := by
  unfold sBd
  rcases e : sB bd s x with _ | i
  · exact Nat.zero_le _
  · have hi := sB_lt e
    show (bd i).length ≤ 24
    by_cases z : bd i = []
    · rw [z]; exact Nat.zero_le _
    · have := h (i / 6) (i % 6) (by omega) (by omega) (by rw [show 6 * (i / 6) + i % 6 = i by omega]; exact z)
      rw [show 6 * (i / 6) + i % 6 = i by omega] at this
      exact this.2.1
theorem cSr.step {σ : Mem} {X : CS} {zs : List Int32} {a f n : Nat} {v w : Int32} (h : cSr σ X zs a f) (hn : n < 48) (hx : ∀ s ∈ zs, ∃ k, k < 300 ∧ s = nI k) : cSr (wI (wI σ 400 n v) 405 n w) X zs a f := by
  obtain ⟨⟨a1, a2, a3, a4, a5⟩, b2, b3, b4, b5, b6, b7, b8, b9, b10⟩ := h
  refine ⟨⟨by rw [wI_o (by decide), wI_o (by decide)]; exact a1, fun i hi => by rw [wI_o (by decide), wI_o (by decide)]; exact a2 i hi, a3, a4, fun s hs => ?_⟩, b2, b3, b4, b5, by rw [wI_o (by decide), wI_o (by decide)]; exact b6, b7, fun f c hf hc => ⟨by rw [wI_o (by decide), wI_o (by decide)]; exact (b8 f c hf hc).1, fun i hi => by rw [wI_o (by decide), wI_o (by decide)]; exact (b8 f c hf hc).2 i hi⟩, b9, b10⟩
  obtain ⟨k, e, ok, hp, hc⟩ := a5 s hs
  obtain ⟨k', hk', e'⟩ := hx s hs
  have ekk : k = k' := nI_inj (e.symm.trans e') (by have := ok.le; omega) (by omega)
  refine ⟨k, e, ok, ?_, fun z => ?_⟩
  · unfold mPk at hp ⊢
    rw [wI_o (by decide), wI_o (by decide), wI_o (by decide), wI_o (by decide)]
    exact hp
  · have := hc z
    unfold cOK at this ⊢
    rw [wI_o (by decide), wI_o (by decide)]
    rcases this with y | y | y
    · exact Or.inl y
    · omega
    · omega
theorem FrI.u1 {σ τ : Mem} {L : Nat} (h : FrI [415] (wI σ 391 30 (nI L)) τ) : FrI tuS σ τ := (FrI.rf.put (by simp [tuSd])).tr (h.mono (by simp [tuSd]))
theorem FrI.u2 {ρ σ τ : Mem} (h : FrI [419, 420, 421] σ τ) (h0 : FrI tuS ρ σ) : FrI tuS ρ τ := h0.tr (h.mono (by simp [tuSd]))
theorem FrI.u3 {ρ σ τ : Mem} (h : FrI gnS σ τ) (h0 : FrI tuS ρ σ) : FrI tuS ρ τ := h0.tr (h.mono (by simp [tuSd, gnS]))
theorem FrI.u4 {ρ σ τ : Mem} (h : FrI [391, 400, 401, 402, 403, 404, 406] σ τ) (h0 : FrI tuS ρ σ) : FrI tuS ρ τ := h0.tr (h.mono (by simp [tuSd]))
theorem FrI.u5 {ρ σ τ : Mem} (h : FrI [415, 416, 417, 418] σ τ) (h0 : FrI tuS ρ σ) : FrI tuS ρ τ := h0.tr (h.mono (by simp [tuSd]))
theorem FrI.u6 {ρ σ τ : Mem} (h : FrI spS σ τ) (h0 : FrI tuS ρ σ) : FrI tuS ρ τ := h0.tr (h.mono (by simp [tuSd, spS]))
set_option maxRecDepth 10000 in
set_option maxHeartbeats 1000000 in
theorem c_Mo_turn_c {G : Ctx} {d : Nat} {Γ : List Sh} {σ : Mem} {Q : Option Value → List Sh → Mem → Prop} {X : CS} {T : TS} {n : Nat} {S : GS} (hM : MoS Γ σ) (hX : SW (kP X) (kC X) ∧ BdW (kP X) (kC X) (kB X) ∧ mBd σ X ∧ mFn σ X) (hR : Rt σ T none) (hW : WF (kP X) T none) (hn : n < tN T) (h8 : kd T n = 8) (hQ : ∀ τ, FrI tuS σ τ → (∀ j, tuF j → τ.1 391 j = σ.1 391 j) → (tG (stl (kP X) (kC X) (kB X) T n S).2 = true → gW τ) → (tG (stl (kP X) (kC X) (kB X) T n S).2 = false → Rt τ (stl (kP X) (kC X) (kB X) T n S).2 none) → Q none Γ τ) (hC : isC ((tmn T n).getD 0 (-1)) = true) : Ct G M_Mo_turn (d + 7) 0 0 [rf G 391, .int (nI n)] Γ σ Q := by
  have hM0 := hM
  obtain ⟨hS, hB, hMB, hFn⟩ := id hX
  have hn48 : n < 48 := by have := hW.1.1; omega
  have hp : ∀ f, f < 8 → σ.1 393 f = kP X (200 + f) := fun f hf => (hFn f hf).1
  have htz : tmq (nP (sgP (kP X))) (gA (kP X) (tV T)) (tmn T n) := (hW.2.2 n hn).1.1
  have hz0 := full_ne htz.1
  have hzl : (tmn T n).length ≤ 40 := (hW.1.2.2 n hn).1
  obtain ⟨k, hk4, ek, hgk⟩ := htz.2.getD hz0
  have hk200 : 200 ≤ k := by
    rw [ek, isC_n (by omega)] at hC
    exact of_decide_eq_true hC
  obtain ⟨a, hxa⟩ := nxc_some (cs := sgC (kC X)) hC
  have hst := stl_call (pt := kP X) (bd := kB X) (S := S) hW hn h8 hC hxa
  obtain ⟨ha, hCa⟩ := nxc_lt hxa
  have hpre := nxc_pre hC hxa
  have hnot := nxc_not hxa
  obtain ⟨kf, hkf4, ekf, hgf⟩ := htz.2.getD ha
  have ha0 : (tmn T n).getD a (-1) = nI kf := ekf
  have hf2 : 200 ≤ kf := by rw [ha0, isC_n (by omega)] at hCa; exact of_decide_eq_true hCa
  obtain ⟨f, rfl⟩ : ∃ f, kf = 200 + f := ⟨kf - 200, by omega⟩
  have hf8 : f < 8 := by unfold gA at hgf; omega
  have hp0 : kP X (200 + f) ≠ 0 := by unfold gA at hgf; rcases hgf with z | z | z; omega; omega; exact z.2.2
  have h394 : σ.1 394 f = bI (kC X (200 + f)) := (hFn f hf8).2 hp0
  have hsg : sgC (kC X) ((tmn T n).getD a (-1)) = kC X (200 + f) := by rw [ha0, sgC_n (by omega)]
  have hnx : kC X (200 + f) = true → ∃ k1, a + 1 < (tmn T n).length ∧ (tmn T n).getD (a + 1) (-1) = nI k1 ∧ k1 < 106 := fun z => by
    have h1 := cs_nx hS.ok htz.1 ha (by rw [hsg]; exact z)
    obtain ⟨k1, hk1, e1, hg1⟩ := htz.2.getD h1
    have e1' : (tmn T n).getD (a + 1) (-1) = nI k1 := e1
    rw [hsg, z, Bool.true_and, e1', isC_n (by omega)] at hnot
    have := of_decide_eq_false hnot
    refine ⟨k1, h1, e1', ?_⟩
    unfold gA at hg1
    omega
  have hrw : ∀ τ, FrI [415] (wI σ 391 30 (nI (tmn T n).length)) τ → seg τ 415 0 (tmn T n) → rwO τ (kP X) (kC X) (tmn T n) ∧ cSr τ X (tmn T n) a f := fun τ f1 s1 => by
    have hr : rwO τ (kP X) (kC X) (tmn T n) := by
      refine ⟨by rw [f1.2 391 (by simp), wI_s], s1, by omega, htz.1, fun s hs => ?_⟩
      obtain ⟨q, hq4, rfl, hg⟩ := htz.2 s hs
      refine ⟨q, rfl, Or.inl (gA_k q hq4 hg).1, mPk_eq hS (fun f hf => by rw [f1.2 393 (by simp), wI_o (by decide)]; exact hp f hf) (gA_k q hq4 hg).1 (gA_k q hq4 hg).2, fun h200 => Or.inl ⟨h200, (gA_k q hq4 hg).1, ?_⟩⟩
      have hq : q - 200 < 8 := by have := (gA_k q hq4 hg).1; omega
      rw [f1.2 394 (by simp), wI_o (by decide)]
      have := (hFn (q - 200) hq).2
      rw [show 200 + (q - 200) = q by omega] at this
      exact this (by
        unfold gA at hg
        rcases hg with z | z | z
        · omega
        · omega
        · exact z.2.2)
    exact ⟨hr, hr, ha, hf8, ha0, hp0, by rw [f1.2 394 (by simp), wI_o (by decide)]; exact h394, hnx, fun f c hf hc => ⟨by rw [f1.2 396 (by simp), wI_o (by decide)]; exact (hMB f c hf hc).1, fun i hi => by rw [f1.2 395 (by simp), wI_o (by decide)]; exact (hMB f c hf hc).2 i hi⟩, hS, hB⟩
  obtain ⟨go, hgo⟩ : ∃ g, g = uF (kC X) (kB X) (tmn T n) a := ⟨_, rfl⟩
  rw [← hgo] at hst

  refine Ct.of (lv := [some (rf G 391), some (.int (nI n)), none, none, none, none, none]) (ll := []) rfl rfl (EN.cat (n := 5) ⟨rfl, rfl, trivial⟩ (Nat.le_of_ble_eq_true rfl)) ?_
  first | refine x_aload_n d_Mo_turn_0 rfl rfl ?_ | refine x_aloadN_n d_Mo_turn_0 rfl rfl ?_ | refine x_aloadE_n d_Mo_turn_0 rfl rfl ?_ | refine x_aloadO_n d_Mo_turn_0 rfl rfl ?_
  refine x_getR d_Mo_turn_1 f_Mo_41 rfl (by first | exact hM.1 | exact hM.s rfl | assumption) (hM.r rfl) ?_
  refine x_bipush (v := 40) d_Mo_turn_4 (by decide) ?_
  refine x_iload_n d_Mo_turn_6 rfl rfl ?_
  refine x_imul d_Mo_turn_7 ?_
  refine Wq.top (y := nI (40 * n + 0)) (by rw [mul40]; rfl) ?_
  refine x_iald d_Mo_turn_8 (by first | exact hM.1 | exact hM.s rfl | assumption) (vp_in_nI (show 40 * n + 0 < 1920 by omega) (by decide)) ?_
  rw [nI_clamp (by omega), (hR.2.2.2 n hn).1.2.2.1.2 0 hz0, ek]
  refine x_istore_n d_Mo_turn_9 rfl rfl ?_
  refine x_iload_n d_Mo_turn_10 rfl rfl ?_
  refine x_bipush (v := 100) d_Mo_turn_11 (by decide) ?_
  refine x_icmp_lt (tgt := 30) d_Mo_turn_13 (by decide) (fun c13 => ?_) (fun c13 => ?_)
  · exact absurd (show nI k < nI 100 from c13) (nI_nlt (by omega) (by omega))
  · refine x_iload_n d_Mo_turn_16 rfl rfl ?_
    refine x_sipush (v := 200) d_Mo_turn_17 (by decide) ?_
    refine x_icmp_ge (tgt := 37) d_Mo_turn_20 (by decide) (fun c20 => ?_) (fun c20 => ?_)
    · refine x_iload_n d_Mo_turn_37 rfl rfl ?_
      refine x_sipush (v := 200) d_Mo_turn_38 (by decide) ?_
      refine x_icmp_ge (tgt := 50) d_Mo_turn_41 (by decide) (fun c41 => ?_) (fun c41 => ?_)
      · first | refine x_aload_n d_Mo_turn_50 rfl rfl ?_ | refine x_aloadN_n d_Mo_turn_50 rfl rfl ?_ | refine x_aloadE_n d_Mo_turn_50 rfl rfl ?_ | refine x_aloadO_n d_Mo_turn_50 rfl rfl ?_
        refine x_iload_n d_Mo_turn_51 rfl rfl ?_
        refine x_callV1 d_Mo_turn_52 k_Mo_load l_Mo_240 v_Mo_load rfl s_Mo_load (by first | exact hM.1 | exact hM.s rfl | assumption) RoomE.m (Nat.le_of_ble_eq_true rfl) (c_Mo_load hM hn48 (hR.2.2.2 n hn).1.2.2.1.1 (hR.2.2.2 n hn).1.2.2.1.2 hzl (fun τ1 f1 s1 => ?_))
        have hM := hM0.fr f1.u1
        obtain ⟨hr1, hc1⟩ := hrw τ1 f1 s1
        have h31 : ∀ j, tuF j → τ1.1 391 j = σ.1 391 j := fun j hj => by rw [f1.2 391 (by simp), wI_j hj.2.2.2.1]
        have hR1 : Rt τ1 T none := hR.cg (fun x y z => by rw [f1.2 x (by simp; omega), wI_o (by omega)]) (by rw [f1.2 391 (by simp), wI_j (by decide)]) (by rw [f1.2 391 (by simp), wI_j (by decide)]) (by rw [f1.2 391 (by simp), wI_j (by decide)])
        have hp1 : ∀ f, f < 8 → τ1.1 393 f = kP X (200 + f) := fun f hf => by rw [f1.2 393 (by simp), wI_o (by decide)]; exact hp f hf
        have j74 : ∀ x : Int32, x = bI go → Wq G M_Mo_turn (Em G (d + 7) 0 0 Q) 0 0 74 [some (rf G 391), some (.int (nI n)), some (.int (nI k)), some (.int (nI a)), none, none, none] [] [.int x] Γ τ1 := by
          intro x hx
          subst hx
          have hM := hM0.fr f1.u1
          have j114 : ∀ hnb : ¬ (go = false ∧ (sgC (kC X) ((tmn T n).getD a (-1)) && isV ((tmn T n).getD (a + 1) (-1))) = false), Wq G M_Mo_turn (Em G (d + 7) 0 0 Q) 0 0 114 [some (rf G 391), some (.int (nI n)), some (.int (nI k)), some (.int (nI a)), some (.int (bI go)), none, none] [] [] Γ τ1 := by
            intro hnb
            have jf : ∀ (u : Nat) (l : Int32) (τ2 : Mem), renR T go n = some u → FrI [419, 420, 421] τ1 τ2 → Wq G M_Mo_turn (Em G (d + 7) 0 0 Q) 0 0 143 [some (rf G 391), some (.int (nI n)), some (.int (nI k)), some (.int (nI a)), some (.int (bI go)), some (.int (nI u)), some (.int l)] [] [] Γ τ2 := by
              intro u l τ2 hu f2
              have hM := hM0.fr (f2.u2 f1.u1)
              have hR2 := hR1.fr f2 (by simp)
              have hp2 : ∀ f, f < 8 → τ2.1 393 f = kP X (200 + f) := fun f hf => by rw [(f2.u2 f1.u1).2 393 (by simp [tuSd])]; exact hp f hf
              have s2 : seg τ2 415 0 (tmn T n) := s1.fr f2 (by simp)
              have hc2 := hc1.fr f2 (by simp) (by simp) (by simp) (by simp) (by simp) (by simp) (by simp) (by simp)
              have hul := renR_lt hW.1.AW hn hu
              have hst2 := hst
              rw [if_neg hnb, hu] at hst2
              refine x_iload d_Mo_turn_143 rfl ?_
              refine x_if_lt (tgt := 166) d_Mo_turn_145 (by decide) (fun c145 => ?_) (fun c145 => ?_)
              · exact absurd c145 (nI_pos (by omega))
              · first | refine x_aload_n d_Mo_turn_148 rfl rfl ?_ | refine x_aloadN_n d_Mo_turn_148 rfl rfl ?_ | refine x_aloadE_n d_Mo_turn_148 rfl rfl ?_ | refine x_aloadO_n d_Mo_turn_148 rfl rfl ?_
                refine x_iload_n d_Mo_turn_149 rfl rfl ?_
                refine x_bipush (v := 6) d_Mo_turn_150 (by decide) ?_
                refine x_callV2 d_Mo_turn_152 k_Mo_becomes l_Mo_201 v_Mo_becomes rfl s_Mo_becomes (by first | exact hM.1 | exact hM.s rfl | assumption) RoomE.m (Nat.le_of_ble_eq_true rfl) (c_Mo_becomes hM hn48 ?_)
                first | refine x_aload_n d_Mo_turn_155 rfl rfl ?_ | refine x_aloadN_n d_Mo_turn_155 rfl rfl ?_ | refine x_aloadE_n d_Mo_turn_155 rfl rfl ?_ | refine x_aloadO_n d_Mo_turn_155 rfl rfl ?_
                refine x_getR d_Mo_turn_156 f_Mo_47 rfl (by first | exact hM.1 | exact hM.s rfl | assumption) (hM.r rfl) ?_
                refine x_iload_n d_Mo_turn_159 rfl rfl ?_
                refine x_iload d_Mo_turn_160 rfl ?_
                refine x_iast d_Mo_turn_162 (by first | exact hM.1 | exact hM.s rfl | assumption) (vp_in_nI hn48 (by decide)) ?_
                rw [nI_clamp (by omega)]
                refine x_goto (tgt := 227) d_Mo_turn_163 (by decide) ?_
                exact x_return d_Mo_turn_227 rfl (hQ _ ((((f2.u2 f1.u1).put (by simp [tuS])).put (by simp [tuS])).put (by simp [tuS])) (fun j hj => by rw [wI_o (by decide), wI_o (by decide), wI_o (by decide), f2.2 391 (by simp)]; exact h31 j hj) (fun z => absurd z (by rw [hst2]; show ¬ tG T = true; rw [hW.2.1]; decide)) (fun _ => by
                  rw [hst2]
                  exact Rt.one (pt := kP X) hR2 hW hn rfl rfl rfl rfl rfl (((FrI.rf.put (by simp)).put (by simp)).put (by simp)) (fun j _ => by rw [wI_o (by decide), wI_o (by decide), wI_o (by decide)]) (fun j hj => ⟨by rw [wI_o (by decide), wI_o (by decide), wI_j hj], by rw [wI_j hj, wI_o (by decide), wI_o (by decide)], by rw [wI_o (by decide), wI_j hj, wI_o (by decide)], by rw [wI_o (by decide), wI_o (by decide), wI_o (by decide)], by rw [wI_o (by decide), wI_o (by decide), wI_o (by decide)]⟩) (by rw [wI_o (by decide), wI_o (by decide), wI_s]; rfl) (fun _ _ => by rw [wI_s]; rfl) (by show (6 : Int32) ≠ 8; decide) (by show ¬ ((6 : Int32) = 2 ∨ (6 : Int32) = 3 ∨ (6 : Int32) = 4 ∨ (6 : Int32) = 7); decide)))
            have jg : ∀ (u : Nat) (τ2 : Mem), renR T go n = none → embR (sgP (kP X)) T go n = some u → FrI [419, 420, 421] τ1 τ2 → Wq G M_Mo_turn (Em G (d + 7) 0 0 Q) 0 0 143 [some (rf G 391), some (.int (nI n)), some (.int (nI k)), some (.int (nI a)), some (.int (bI go)), some (.int (-1)), some (.int (nI u))] [] [] Γ τ2 := by
              intro u τ2 hu hu2 f2
              have hM := hM0.fr (f2.u2 f1.u1)
              have hR2 := hR1.fr f2 (by simp)
              have hp2 : ∀ f, f < 8 → τ2.1 393 f = kP X (200 + f) := fun f hf => by rw [(f2.u2 f1.u1).2 393 (by simp [tuSd])]; exact hp f hf
              have s2 : seg τ2 415 0 (tmn T n) := s1.fr f2 (by simp)
              have hc2 := hc1.fr f2 (by simp) (by simp) (by simp) (by simp) (by simp) (by simp) (by simp) (by simp)
              obtain ⟨⟨r1, r2, r3⟩, _⟩ := riv_spec hW.1.AW hn hu2
              have hul := isBel_lt hW.1.AW hn r2
              have r4 : kd T u = 3 ∨ kd T u = 4 := by
                rw [r1]
                cases go
                · exact Or.inr rfl
                · exact Or.inl rfl
              have hst2 := hst
              rw [if_neg hnb, hu] at hst2
              simp only [hu2] at hst2
              refine x_iload d_Mo_turn_143 rfl ?_
              refine x_if_lt (tgt := 166) d_Mo_turn_145 (by decide) (fun c145 => ?_) (fun c145 => ?_)
              · refine x_iload d_Mo_turn_166 rfl ?_
                refine x_if_lt (tgt := 181) d_Mo_turn_168 (by decide) (fun c168 => ?_) (fun c168 => ?_)
                · exact absurd c168 (nI_pos (by omega))
                · first | refine x_aload_n d_Mo_turn_171 rfl rfl ?_ | refine x_aloadN_n d_Mo_turn_171 rfl rfl ?_ | refine x_aloadE_n d_Mo_turn_171 rfl rfl ?_ | refine x_aloadO_n d_Mo_turn_171 rfl rfl ?_
                  refine x_iload_n d_Mo_turn_172 rfl rfl ?_
                  refine x_iload d_Mo_turn_173 rfl ?_
                  refine x_callV2 d_Mo_turn_175 k_Mo_generalise l_Mo_251 v_Mo_generalise rfl s_Mo_generalise (by first | exact hM.1 | exact hM.s rfl | assumption) RoomE.m (Nat.le_of_ble_eq_true rfl) (c_Mo_generalise (S := S) hM hS hp2 hR2 hW r3 hn h8 r4 r2 (fun τ3 f3 o3 g1 g2 => ?_))
                  refine x_goto (tgt := 227) d_Mo_turn_178 (by decide) ?_
                  exact x_return d_Mo_turn_227 rfl (hQ τ3 (f3.u3 (f2.u2 f1.u1)) (fun j hj => by rw [o3 j ⟨hj.1, hj.2.1, hj.2.2.1, hj.2.2.2.2.1, hj.2.2.2.2.2⟩, f2.2 391 (by simp)]; exact h31 j hj) (by rw [hst2]; exact g1) (by rw [hst2]; exact g2))
              · exact absurd (by decide) c145
            have jn : ∀ (τ2 : Mem), renR T go n = none → embR (sgP (kP X)) T go n = none → FrI [419, 420, 421] τ1 τ2 → Wq G M_Mo_turn (Em G (d + 7) 0 0 Q) 0 0 143 [some (rf G 391), some (.int (nI n)), some (.int (nI k)), some (.int (nI a)), some (.int (bI go)), some (.int (-1)), some (.int (-1))] [] [] Γ τ2 := by
              intro τ2 hu hu2 f2
              have hM := hM0.fr (f2.u2 f1.u1)
              have hR2 := hR1.fr f2 (by simp)
              have hp2 : ∀ f, f < 8 → τ2.1 393 f = kP X (200 + f) := fun f hf => by rw [(f2.u2 f1.u1).2 393 (by simp [tuSd])]; exact hp f hf
              have s2 : seg τ2 415 0 (tmn T n) := s1.fr f2 (by simp)
              have hc2 := hc1.fr f2 (by simp) (by simp) (by simp) (by simp) (by simp) (by simp) (by simp) (by simp)
              have hst2 := hst
              rw [if_neg hnb, hu] at hst2
              simp only [hu2] at hst2
              cases hgov : go with
              | true =>
                rw [hgov, if_pos rfl] at hst2
                have hgt : uF (kC X) (kB X) (tmn T n) a = true := by rw [← hgo]; exact hgov
                refine x_iload d_Mo_turn_143 rfl ?_
                refine x_if_lt (tgt := 166) d_Mo_turn_145 (by decide) (fun c145 => ?_) (fun c145 => ?_)
                · refine x_iload d_Mo_turn_166 rfl ?_
                  refine x_if_lt (tgt := 181) d_Mo_turn_168 (by decide) (fun c168 => ?_) (fun c168 => ?_)
                  · refine x_iload d_Mo_turn_181 rfl ?_
                    refine x_if_eq (tgt := 221) d_Mo_turn_183 (by decide) (fun c183 => ?_) (fun c183 => ?_)
                    · exact absurd c183 (by decide)
                    · first | refine x_aload_n d_Mo_turn_186 rfl rfl ?_ | refine x_aloadN_n d_Mo_turn_186 rfl rfl ?_ | refine x_aloadE_n d_Mo_turn_186 rfl rfl ?_ | refine x_aloadO_n d_Mo_turn_186 rfl rfl ?_
                      refine x_iload_n d_Mo_turn_187 rfl rfl ?_
                      refine x_iconst (v := 3) d_Mo_turn_188 (by decide) ?_
                      refine x_callV2 d_Mo_turn_189 k_Mo_becomes l_Mo_201 v_Mo_becomes rfl s_Mo_becomes (by first | exact hM.1 | exact hM.s rfl | assumption) RoomE.m (Nat.le_of_ble_eq_true rfl) (c_Mo_becomes hM hn48 ?_)
                      first | refine x_aload_n d_Mo_turn_192 rfl rfl ?_ | refine x_aloadN_n d_Mo_turn_192 rfl rfl ?_ | refine x_aloadE_n d_Mo_turn_192 rfl rfl ?_ | refine x_aloadO_n d_Mo_turn_192 rfl rfl ?_
                      refine x_iload_n d_Mo_turn_193 rfl rfl ?_
                      have hMs : MoS Γ (wI (wI τ2 400 n 3) 405 n (τ2.1 391 13)) := (hM.w (a := 400) (j := n) (v := 3)).w (a := 405) (j := n) (v := τ2.1 391 13)
                      refine x_callV1 d_Mo_turn_194 k_Mo_unfold l_Mo_212 v_Mo_unfold rfl s_Mo_unfold (by first | exact hM.1 | exact hM.s rfl | assumption) RoomE.m (Nat.le_of_ble_eq_true rfl) (c_Mo_unfold_s (X := X) hMs (hc2.step hn48 (fun s hs => by obtain ⟨q, h4, e, hg⟩ := htz.2 s hs; exact ⟨q, by have := gA_k q h4 hg; omega, e⟩)) (by omega) (htz.mono (fun q _ z => by unfold gA at z ⊢; rcases z with z | z | z; exact Or.inl ⟨by omega, z.2⟩; exact Or.inr (Or.inl z); exact Or.inr (Or.inr z))) hgt (fun τ3 f3 s3 => ?_))
                      have hM3 := hMs.fr f3
                      have hM := (hM3.w (a := 391) (j := 30) (v := nI (uL (kP X) (kC X) (kB X) (tmn T n) a).length))
                      first | refine x_aload_n d_Mo_turn_197 rfl rfl ?_ | refine x_aloadN_n d_Mo_turn_197 rfl rfl ?_ | refine x_aloadE_n d_Mo_turn_197 rfl rfl ?_ | refine x_aloadO_n d_Mo_turn_197 rfl rfl ?_
                      refine x_getR d_Mo_turn_198 f_Mo_53 rfl (by first | exact hM.1 | exact hM.s rfl | assumption) (hM.r rfl) ?_
                      refine x_iload_n d_Mo_turn_201 rfl rfl ?_
                      refine x_iconst (v := 1) d_Mo_turn_202 (by decide) ?_
                      refine x_iast d_Mo_turn_203 (by first | exact hM.1 | exact hM.s rfl | assumption) (vp_in_nI hn48 (by decide)) ?_
                      rw [nI_clamp (by omega)]
                      have hM4 : MoS Γ (wI (wI τ3 391 30 (nI (uL (kP X) (kC X) (kB X) (tmn T n) a).length)) 406 n 1) := hM.w (a := 406) (j := n) (v := 1)
                      have hWb := hW.bec hn h8 (k := 3) (v := -1) ⟨3, by omega, rfl⟩ (by decide) (fun _ => hC) (fun z => absurd z (by decide)) (fun z => absurd z (by decide)) (fun _ => rfl)
                      have hRs : Rt (wI (wI (wI τ2 400 n 3) 405 n (τ2.1 391 13)) 406 n 1) (tUp T n (nBecome (tD T n) 3 (-1))) (some n) := hR2.hole.set (n := n) (x := nBecome (tD T n) 3 (-1)) hW.hole hn rfl rfl rfl rfl rfl (((FrI.rf.put (by simp)).put (by simp)).put (by simp)) (fun j _ => by rw [wI_o (by decide), wI_o (by decide), wI_o (by decide)]) (fun j hj => ⟨by rw [wI_o (by decide), wI_o (by decide), wI_j hj], by rw [wI_o (by decide), wI_o (by decide), wI_o (by decide)], by rw [wI_o (by decide), wI_j hj, wI_o (by decide)], by rw [wI_j hj, wI_o (by decide), wI_o (by decide)], by rw [wI_o (by decide), wI_o (by decide), wI_o (by decide)]⟩) (by rw [wI_o (by decide), wI_o (by decide), wI_s]; rfl) (fun _ _ => by rw [wI_o (by decide), wI_o (by decide), wI_o (by decide)]; exact (hR2.2.2.2 n hn).1.2.2.2.1 (by rw [h8]; decide) (by rw [h8]; decide) |>.trans (show dt T n = -1 from (hW.2.2 n hn).1.2.2.2.2.2.2.2.2.2 (by right; right; right; right; exact h8))) (by show (3 : Int32) ≠ 8; decide)
                      have hR4 : Rt (wI (wI τ3 391 30 (nI (uL (kP X) (kC X) (kB X) (tmn T n) a).length)) 406 n 1) (tUp T n (nBecome (tD T n) 3 (-1))) (some n) := hRs.cg (fun x h1 h2 => by
                        by_cases e : x = 406
                        · subst e
                          funext q
                          by_cases eq : q = n
                          · rw [eq, wI_s, wI_s]
                          · rw [wI_j eq, wI_j eq, wI_o (by decide), f3.2 406 (by simp)]
                        · rw [wI_o e, wI_o (by omega), f3.2 x (by simp; omega), wI_o e]) (by rw [wI_o (by decide), wI_j (by decide), f3.2 391 (by simp)]; exact (congrFun (wI_o (by decide)) _).symm) (by rw [wI_o (by decide), wI_j (by decide), f3.2 391 (by simp)]; exact (congrFun (wI_o (by decide)) _).symm) (by rw [wI_o (by decide), wI_j (by decide), f3.2 391 (by simp)]; exact (congrFun (wI_o (by decide)) _).symm)
                      have hSt4 : St (kP X) (wI (wI τ3 391 30 (nI (uL (kP X) (kC X) (kB X) (tmn T n) a).length)) 406 n 1) (tUp T n (nBecome (tD T n) 3 (-1))) (some n) := ⟨fun z => absurd (show tG T = true from z) (by rw [hW.2.1]; decide), fun _ => ⟨hR4, hWb.1⟩⟩
                      have hM := hM4
                      have hLl : (uL (kP X) (kC X) (kB X) (tmn T n) a).length ≤ 20400 := by
                        have hb := unf_len (P := sgP (kP X)) (zs := tmn T n) (bs := sBd (kB X) ((tmn T n).getD a (-1)) (caf (kC X) (tmn T n) a)) (pv := nI) (a := a) (p0 := up0 (kC X) (tmn T n) a) (cnt := ucN (kP X) (kC X) (tmn T n) a) hz0
                        have hbl2 : (sBd (kB X) ((tmn T n).getD a (-1)) (caf (kC X) (tmn T n) a)).length ≤ 24 := sBd_len hB
                        refine Nat.le_trans hb ?_
                        have := Nat.mul_le_mul hzl hbl2
                        omega
                      first | refine x_aload_n d_Mo_turn_204 rfl rfl ?_ | refine x_aloadN_n d_Mo_turn_204 rfl rfl ?_ | refine x_aloadE_n d_Mo_turn_204 rfl rfl ?_ | refine x_aloadO_n d_Mo_turn_204 rfl rfl ?_
                      refine x_iload_n d_Mo_turn_205 rfl rfl ?_
                      first | refine x_aload_n d_Mo_turn_206 rfl rfl ?_ | refine x_aloadN_n d_Mo_turn_206 rfl rfl ?_ | refine x_aloadE_n d_Mo_turn_206 rfl rfl ?_ | refine x_aloadO_n d_Mo_turn_206 rfl rfl ?_
                      refine x_getR d_Mo_turn_207 f_Mo_80 rfl (by first | exact hM.1 | exact hM.s rfl | assumption) (hM.r rfl) ?_
                      refine x_iconst (v := 0) d_Mo_turn_210 (by decide) ?_
                      first | refine x_aload_n d_Mo_turn_211 rfl rfl ?_ | refine x_aloadN_n d_Mo_turn_211 rfl rfl ?_ | refine x_aloadE_n d_Mo_turn_211 rfl rfl ?_ | refine x_aloadO_n d_Mo_turn_211 rfl rfl ?_
                      refine x_getI d_Mo_turn_212 f_Mo_157 rfl (by first | exact hM.1 | exact hM.s rfl | assumption) ?_
                      rw [wI_o (by decide), wI_s]
                      refine x_callV4 d_Mo_turn_215 k_Mo_add l_Mo_205 v_Mo_add rfl s_Mo_add (by first | exact hM.1 | exact hM.s rfl | assumption) RoomE.m (Nat.le_of_ble_eq_true rfl) (c_Mo_addT (pt := kP X) (T := tUp T n (nBecome (tD T n) 3 (-1))) (n := n) (q := 0) (l := uL (kP X) (kC X) (kB X) (tmn T n) a) hM4 (hM4.s rfl) (by decide) (by omega) (by decide) (fun i hi => by rw [wI_o (by decide), wI_o (by decide)]; exact s3 i hi) hSt4 (by rw [Nat.zero_add]) (fun _ => ⟨hn, ⟨_, _, hWb.2⟩, Or.inl (by decide)⟩) (fun τ5 g1 g2 f5 o5 t5 m5 => ?_))
                      rw [← tAdd_tk] at g1 g2
                      have hM5 := hM4.fr f5
                      have hM := hM5
                      refine x_goto (tgt := 227) d_Mo_turn_218 (by decide) ?_
                      have hstep : tStep (kP X) (kC X) (kB X) T n a = (tAdd (tUp T n (nBecome (tD T n) 3 (-1))) (some n) ((uL (kP X) (kC X) (kB X) (tmn T n) a).take 40) (decide (40 < (uL (kP X) (kC X) (kB X) (tmn T n) a).length))).1 := by unfold tStep; rw [hW.t40 hn]
                      rw [← hstep] at g1 g2
                      exact x_return d_Mo_turn_227 rfl (hQ τ5 (f5.u4 (((f3.u5 (((f2.u2 f1.u1).put (by simp [tuS])).put (by simp [tuS]))).put (by simp [tuS])).put (by simp [tuS]))) (fun j hj => by rw [o5 j hj.1 hj.2.1, wI_o (by decide), wI_j hj.2.2.2.1, f3.2 391 (by simp), wI_o (by decide), wI_o (by decide), f2.2 391 (by simp)]; exact h31 j hj) (by rw [hst2]; exact g1) (by
                        rw [hst2]
                        intro hg
                        refine (g2 hg).close (fun _ b' c' hbc => ?_)
                        rw [hstep, tAdd_tk] at hg
                        have hkd3 : kd (tUp T n (nBecome (tD T n) 3 (-1))) n = 3 := by unfold kd; rw [tD_up]; rfl
                        have hLm : tmq (nP (sgP (kP X))) (gA (kP X) (tV T)) (uL (kP X) (kC X) (kB X) (tmn T n) a) := uL_tm hS hB (by omega) htz ha hCa hgt
                        have hadd := hWb.1.add hn hWb.2 (show tN T + 0 = tN T from rfl) (by rw [hkd3]; decide) hLm hg
                        rw [hstep, tAdd_tk] at hbc ⊢
                        obtain ⟨u1, u2⟩ := Ch_u hbc hadd.2.1
                        have hkd' : kd (tAdd (tUp T n (nBecome (tD T n) 3 (-1))) (some n) (uL (kP X) (kC X) (kB X) (tmn T n) a) false).1 n = 3 := by unfold kd at hkd3 ⊢; rw [(hadd.2.2.2.2.2.1 n hn).1]; exact hkd3
                        refine ⟨by rw [m5 n (fun _ => hn), wI_s, u1]; rfl, fun hc => by rw [f5.2 405 (by simp), wI_o (by decide), wI_o (by decide), f3.2 405 (by simp), wI_s, hR2.2.1, u2 hc], fun z => ?_, fun z => ?_⟩
                        · rw [hkd'] at z; exact absurd z (by decide)
                        · rw [hkd'] at z; exact absurd z (by decide)))
                  · exact absurd (by decide) c168
                · exact absurd (by decide) c145
              | false =>
                rw [hgov, if_neg (by decide)] at hst2
                have hcv : (sgC (kC X) ((tmn T n).getD a (-1)) && isV ((tmn T n).getD (a + 1) (-1))) = true := by
                  cases z : (sgC (kC X) ((tmn T n).getD a (-1)) && isV ((tmn T n).getD (a + 1) (-1))) with
                  | true => rfl
                  | false => exact absurd ⟨hgov, z⟩ hnb
                obtain ⟨q1, q2⟩ := Bool.and_eq_true_iff.mp hcv
                have hcs1 : kC X (200 + f) = true := by rw [← hsg]; exact q1
                obtain ⟨v, hv1, hv2, hv106⟩ := hnx hcs1
                have hv100 : v < 100 := by rw [hv2, isV_n (by omega)] at q2; exact of_decide_eq_true q2
                have hX2 : SW (kP X) (kC X) ∧ BdW (kP X) (kC X) (kB X) ∧ mBd τ2 X ∧ mFn τ2 X := by
                  have ff := f2.u2 f1.u1
                  exact ⟨hS, hB, fun f c hf hc => ⟨by rw [ff.2 396 (by simp [tuSd])]; exact (hMB f c hf hc).1, (hMB f c hf hc).2.fr ff (by simp [tuSd])⟩, fun f hf => by rw [ff.2 393 (by simp [tuSd]), ff.2 394 (by simp [tuSd])]; exact hFn f hf⟩
                refine x_iload d_Mo_turn_143 rfl ?_
                refine x_if_lt (tgt := 166) d_Mo_turn_145 (by decide) (fun c145 => ?_) (fun c145 => ?_)
                · refine x_iload d_Mo_turn_166 rfl ?_
                  refine x_if_lt (tgt := 181) d_Mo_turn_168 (by decide) (fun c168 => ?_) (fun c168 => ?_)
                  · refine x_iload d_Mo_turn_181 rfl ?_
                    refine x_if_eq (tgt := 221) d_Mo_turn_183 (by decide) (fun c183 => ?_) (fun c183 => ?_)
                    · first | refine x_aload_n d_Mo_turn_221 rfl rfl ?_ | refine x_aloadN_n d_Mo_turn_221 rfl rfl ?_ | refine x_aloadE_n d_Mo_turn_221 rfl rfl ?_ | refine x_aloadO_n d_Mo_turn_221 rfl rfl ?_
                      refine x_iload_n d_Mo_turn_222 rfl rfl ?_
                      refine x_iload_n d_Mo_turn_223 rfl rfl ?_
                      refine x_callV2 d_Mo_turn_224 k_Mo_split l_Mo_254 v_Mo_split rfl s_Mo_split (by first | exact hM.1 | exact hM.s rfl | assumption) RoomE.m (Nat.le_of_ble_eq_true rfl) (c_Mo_split (X := X) hM hX2 hR2 hW hn h8 rfl (by have := s2 a ha; rw [Nat.zero_add] at this; exact this) (by have := s2 (a + 1) hv1; rw [Nat.zero_add] at this; exact this) hpre hv1 hf8 ha0 hp0 hcs1 hv100 hv2 (fun τ3 f3 o3 g1 g2 => ?_))
                      exact x_return d_Mo_turn_227 rfl (hQ τ3 (f3.u6 (f2.u2 f1.u1)) (fun j hj => by rw [o3 j hj.1 hj.2.1 hj.2.2.1 hj.2.2.2.1, f2.2 391 (by simp)]; exact h31 j hj) (by rw [hst2]; exact g1) (by rw [hst2]; exact g2))
                    · exact absurd rfl c183
                  · exact absurd (by decide) c168
                · exact absurd (by decide) c145
            have hM := hM0.fr f1.u1
            first | refine x_aload_n d_Mo_turn_114 rfl rfl ?_ | refine x_aloadN_n d_Mo_turn_114 rfl rfl ?_ | refine x_aloadE_n d_Mo_turn_114 rfl rfl ?_ | refine x_aloadO_n d_Mo_turn_114 rfl rfl ?_
            refine x_iload_n d_Mo_turn_115 rfl rfl ?_
            refine x_iload d_Mo_turn_116 rfl ?_
            refine x_iconst (v := 0) d_Mo_turn_118 (by decide) ?_
            refine x_callV3 d_Mo_turn_119 k_Mo_rival l_Mo_247 v_Mo_rival rfl s_Mo_rival (by first | exact hM.1 | exact hM.s rfl | assumption) RoomE.m (Nat.le_of_ble_eq_true rfl) (c_Mo_rival (pt := kP X) (st := go) (wi := false) hM hS hp1 hR1 hW hn (fun τ2 f2 => ?_))
            rw [rv_ren hW hn]
            have hM2 := hM.fr f2
            have hR2 := hR1.fr f2 (by simp)
            have hp2 : ∀ f, f < 8 → τ2.1 393 f = kP X (200 + f) := fun f hf => by rw [f2.2 393 (by simp)]; exact hp1 f hf
            have hM := hM2
            refine x_istore d_Mo_turn_122 rfl ?_
            refine x_iload d_Mo_turn_124 rfl ?_
            refine x_if_ge (tgt := 140) d_Mo_turn_126 (by decide) (fun c126 => ?_) (fun c126 => ?_)
            · refine x_iconst (v := -1) d_Mo_turn_140 (by decide) ?_
              refine x_istore d_Mo_turn_141 rfl ?_
              first
              | (rcases hu : renR T go n with _ | u
                 · rw [hu] at c126; exact absurd c126 (by decide)
                 · rw [hu] at c126
                   exact jf u (-1) τ2 hu f2)
              | (rcases hu : renR T go n with _ | u
                 · rcases hu2 : embR (sgP (kP X)) T go n with _ | u2
                   · exact jn τ3 hu hu2 (f2.tr f3)
                   · exact jg u2 τ3 hu hu2 (f2.tr f3)
                 · rw [hu] at c126
                   exact absurd (nI_pos' (by have := renR_lt hW.1.AW hn hu; omega)) c126)
            · first | refine x_aload_n d_Mo_turn_129 rfl rfl ?_ | refine x_aloadN_n d_Mo_turn_129 rfl rfl ?_ | refine x_aloadE_n d_Mo_turn_129 rfl rfl ?_ | refine x_aloadO_n d_Mo_turn_129 rfl rfl ?_
              refine x_iload_n d_Mo_turn_130 rfl rfl ?_
              refine x_iload d_Mo_turn_131 rfl ?_
              refine x_iconst (v := 1) d_Mo_turn_133 (by decide) ?_
              refine x_callV3 d_Mo_turn_134 k_Mo_rival l_Mo_247 v_Mo_rival rfl s_Mo_rival (by first | exact hM.1 | exact hM.s rfl | assumption) RoomE.m (Nat.le_of_ble_eq_true rfl) (c_Mo_rival (pt := kP X) (st := go) (wi := true) hM2 hS hp2 hR2 hW hn (fun τ3 f3 => ?_))
              rw [rv_emb hW hn]
              refine x_goto (tgt := 141) d_Mo_turn_137 (by decide) ?_
              refine x_istore d_Mo_turn_141 rfl ?_
              first
              | (rcases hu : renR T go n with _ | u
                 · rw [hu] at c126; exact absurd c126 (by decide)
                 · rw [hu] at c126
                   exact jf u (-1) τ2 hu f2)
              | (rcases hu : renR T go n with _ | u
                 · rcases hu2 : embR (sgP (kP X)) T go n with _ | u2
                   · exact jn τ3 hu hu2 (f2.tr f3)
                   · exact jg u2 τ3 hu hu2 (f2.tr f3)
                 · rw [hu] at c126
                   exact absurd (nI_pos' (by have := renR_lt hW.1.AW hn hu; omega)) c126)
          refine x_istore d_Mo_turn_74 rfl ?_
          refine x_iload d_Mo_turn_76 rfl ?_
          refine x_if_ne (tgt := 114) d_Mo_turn_78 (by decide) (fun c78 => ?_) (fun c78 => ?_)
          · first
            | exact j114 (fun z => by rw [z.1] at c78; exact c78 rfl)
            | exact j114 (fun z => by
                have := z.2
                rw [hsg, bI_n0 c91, hk1e, isV_n (by omega), decide_eq_true ((nI_ltI (by omega) (by decide)).mp (show nI k1 < nI 100 from c104))] at this
                cases this)
          · first | refine x_aload_n d_Mo_turn_81 rfl rfl ?_ | refine x_aloadN_n d_Mo_turn_81 rfl rfl ?_ | refine x_aloadE_n d_Mo_turn_81 rfl rfl ?_ | refine x_aloadO_n d_Mo_turn_81 rfl rfl ?_
            first | refine x_aload_n d_Mo_turn_82 rfl rfl ?_ | refine x_aloadN_n d_Mo_turn_82 rfl rfl ?_ | refine x_aloadE_n d_Mo_turn_82 rfl rfl ?_ | refine x_aloadO_n d_Mo_turn_82 rfl rfl ?_
            refine x_getR d_Mo_turn_83 f_Mo_80 rfl (by first | exact hM.1 | exact hM.s rfl | assumption) (hM.r rfl) ?_
            refine x_iload_n d_Mo_turn_86 rfl rfl ?_
            refine x_iald d_Mo_turn_87 (by first | exact hM.1 | exact hM.s rfl | assumption) (vp_in_nI (show a < 20400 by omega) (by decide)) ?_
            rw [nI_clamp (by omega), show τ1.1 415 (a) = (tmn T n).getD (a) (-1) by have := s1 (a) (by omega); rw [Nat.zero_add] at this; exact this]
            rw [ha0]
            refine x_callV1 d_Mo_turn_88 k_Mo_isCased l_Mo_160 v_Mo_isCased rfl s_Mo_isCased (by first | exact hM.1 | exact hM.s rfl | assumption) RoomE.m (Nat.le_of_ble_eq_true rfl) (c_Mo_isCased (cs := kC X) hM (Or.inl ⟨by omega, by omega, by rw [Nat.add_sub_cancel_left, f1.2 394 (by simp), wI_o (by decide)]; exact h394⟩) ?_)
            refine x_if_eq (tgt := 107) d_Mo_turn_91 (by decide) (fun c91 => ?_) (fun c91 => ?_)
            · have hbl : go = false ∧ (sgC (kC X) ((tmn T n).getD a (-1)) && isV ((tmn T n).getD (a + 1) (-1))) = false := by
                refine ⟨bI_0 c78, ?_⟩
                first
                | (rw [hsg, bI_0 c91]; rfl)
                | (rw [hk1e, isV_n (by omega), decide_eq_false (fun z => c104 (show nI k1 < nI 100 from nI_lt z (by decide))), Bool.and_false])
              first | refine x_aload_n d_Mo_turn_107 rfl rfl ?_ | refine x_aloadN_n d_Mo_turn_107 rfl rfl ?_ | refine x_aloadE_n d_Mo_turn_107 rfl rfl ?_ | refine x_aloadO_n d_Mo_turn_107 rfl rfl ?_
              refine x_iload_n d_Mo_turn_108 rfl rfl ?_
              refine x_iconst (v := 5) d_Mo_turn_109 (by decide) ?_
              refine x_callV2 d_Mo_turn_110 k_Mo_becomes l_Mo_201 v_Mo_becomes rfl s_Mo_becomes (by first | exact hM.1 | exact hM.s rfl | assumption) RoomE.m (Nat.le_of_ble_eq_true rfl) (c_Mo_becomes hM hn48 ?_)
              exact x_return d_Mo_turn_113 rfl (hQ _ ((f1.u1.put (by simp [tuS])).put (by simp [tuS])) (fun j hj => by rw [wI_o (by decide), wI_o (by decide)]; exact h31 j hj) (fun z => absurd z (by rw [hst, if_pos hbl]; show ¬ tG T = true; rw [hW.2.1]; decide)) (fun _ => by
                rw [hst, if_pos hbl]
                exact (Rt.one (pt := kP X) hR1 hW hn rfl rfl rfl rfl rfl ((FrI.rf.put (by simp)).put (by simp)) (fun j _ => by rw [wI_o (by decide), wI_o (by decide)]) (fun j hj => ⟨by rw [wI_o (by decide), wI_j hj], by rw [wI_o (by decide), wI_o (by decide)], by rw [wI_j hj, wI_o (by decide)], by rw [wI_o (by decide), wI_o (by decide)], by rw [wI_o (by decide), wI_o (by decide)]⟩) (by rw [wI_o (by decide), wI_s]; rfl) (fun _ _ => by rw [wI_o (by decide), wI_o (by decide)]; exact ((hR1).2.2.2 n hn).1.2.2.2.1 (by rw [h8]; decide) (by rw [h8]; decide) |>.trans (show dt T n = -1 from (hW.2.2 n hn).1.2.2.2.2.2.2.2.2.2 (by right; right; right; right; exact h8))) (by show (5 : Int32) ≠ 8; decide) (by show ¬ ((5 : Int32) = 2 ∨ (5 : Int32) = 3 ∨ (5 : Int32) = 4 ∨ (5 : Int32) = 7); decide))))
            · obtain ⟨k1, hk1l, hk1e, hk16⟩ := hnx (bI_n0 c91)
              first | refine x_aload_n d_Mo_turn_94 rfl rfl ?_ | refine x_aloadN_n d_Mo_turn_94 rfl rfl ?_ | refine x_aloadE_n d_Mo_turn_94 rfl rfl ?_ | refine x_aloadO_n d_Mo_turn_94 rfl rfl ?_
              refine x_getR d_Mo_turn_95 f_Mo_80 rfl (by first | exact hM.1 | exact hM.s rfl | assumption) (hM.r rfl) ?_
              refine x_iload_n d_Mo_turn_98 rfl rfl ?_
              refine x_iconst (v := 1) d_Mo_turn_99 (by decide) ?_
              refine x_iadd d_Mo_turn_100 ?_
              rw [nI_1]
              refine x_iald d_Mo_turn_101 (by first | exact hM.1 | exact hM.s rfl | assumption) (vp_in_nI (show a + 1 < 20400 by omega) (by decide)) ?_
              rw [nI_clamp (by omega), show τ1.1 415 (a + 1) = (tmn T n).getD (a + 1) (-1) by have := s1 (a + 1) (by omega); rw [Nat.zero_add] at this; exact this]
              rw [hk1e]
              refine x_bipush (v := 100) d_Mo_turn_102 (by decide) ?_
              refine x_icmp_lt (tgt := 114) d_Mo_turn_104 (by decide) (fun c104 => ?_) (fun c104 => ?_)
              · first
                | exact j114 (fun z => by rw [z.1] at c78; exact c78 rfl)
                | exact j114 (fun z => by
                    have := z.2
                    rw [hsg, bI_n0 c91, hk1e, isV_n (by omega), decide_eq_true ((nI_ltI (by omega) (by decide)).mp (show nI k1 < nI 100 from c104))] at this
                    cases this)
              · have hbl : go = false ∧ (sgC (kC X) ((tmn T n).getD a (-1)) && isV ((tmn T n).getD (a + 1) (-1))) = false := by
                  refine ⟨bI_0 c78, ?_⟩
                  first
                  | (rw [hsg, bI_0 c91]; rfl)
                  | (rw [hk1e, isV_n (by omega), decide_eq_false (fun z => c104 (show nI k1 < nI 100 from nI_lt z (by decide))), Bool.and_false])
                first | refine x_aload_n d_Mo_turn_107 rfl rfl ?_ | refine x_aloadN_n d_Mo_turn_107 rfl rfl ?_ | refine x_aloadE_n d_Mo_turn_107 rfl rfl ?_ | refine x_aloadO_n d_Mo_turn_107 rfl rfl ?_
                refine x_iload_n d_Mo_turn_108 rfl rfl ?_
                refine x_iconst (v := 5) d_Mo_turn_109 (by decide) ?_
                refine x_callV2 d_Mo_turn_110 k_Mo_becomes l_Mo_201 v_Mo_becomes rfl s_Mo_becomes (by first | exact hM.1 | exact hM.s rfl | assumption) RoomE.m (Nat.le_of_ble_eq_true rfl) (c_Mo_becomes hM hn48 ?_)
                exact x_return d_Mo_turn_113 rfl (hQ _ ((f1.u1.put (by simp [tuS])).put (by simp [tuS])) (fun j hj => by rw [wI_o (by decide), wI_o (by decide)]; exact h31 j hj) (fun z => absurd z (by rw [hst, if_pos hbl]; show ¬ tG T = true; rw [hW.2.1]; decide)) (fun _ => by
                  rw [hst, if_pos hbl]
                  exact (Rt.one (pt := kP X) hR1 hW hn rfl rfl rfl rfl rfl ((FrI.rf.put (by simp)).put (by simp)) (fun j _ => by rw [wI_o (by decide), wI_o (by decide)]) (fun j hj => ⟨by rw [wI_o (by decide), wI_j hj], by rw [wI_o (by decide), wI_o (by decide)], by rw [wI_j hj, wI_o (by decide)], by rw [wI_o (by decide), wI_o (by decide)], by rw [wI_o (by decide), wI_o (by decide)]⟩) (by rw [wI_o (by decide), wI_s]; rfl) (fun _ _ => by rw [wI_o (by decide), wI_o (by decide)]; exact ((hR1).2.2.2 n hn).1.2.2.2.1 (by rw [h8]; decide) (by rw [h8]; decide) |>.trans (show dt T n = -1 from (hW.2.2 n hn).1.2.2.2.2.2.2.2.2.2 (by right; right; right; right; exact h8))) (by show (5 : Int32) ≠ 8; decide) (by show ¬ ((5 : Int32) = 2 ∨ (5 : Int32) = 3 ∨ (5 : Int32) = 4 ∨ (5 : Int32) = 7); decide))))
        first | refine x_aload_n d_Mo_turn_55 rfl rfl ?_ | refine x_aloadN_n d_Mo_turn_55 rfl rfl ?_ | refine x_aloadE_n d_Mo_turn_55 rfl rfl ?_ | refine x_aloadO_n d_Mo_turn_55 rfl rfl ?_
        refine x_callV0 d_Mo_turn_56 k_Mo_nextCall l_Mo_243 v_Mo_nextCall rfl s_Mo_nextCall (by first | exact hM.1 | exact hM.s rfl | assumption) RoomE.m (Nat.le_of_ble_eq_true rfl) (c_Mo_nextCall hM hS.ok hr1 ?_)
        rw [hxa]
        refine x_istore_n d_Mo_turn_59 rfl rfl ?_
        first | refine x_aload_n d_Mo_turn_60 rfl rfl ?_ | refine x_aloadN_n d_Mo_turn_60 rfl rfl ?_ | refine x_aloadE_n d_Mo_turn_60 rfl rfl ?_ | refine x_aloadO_n d_Mo_turn_60 rfl rfl ?_
        refine x_iload_n d_Mo_turn_61 rfl rfl ?_
        refine x_callV1 d_Mo_turn_62 k_Mo_bodyOf l_Mo_171 v_Mo_bodyOf rfl s_Mo_bodyOf (by first | exact hM.1 | exact hM.s rfl | assumption) RoomE.m (Nat.le_of_ble_eq_true rfl) (c_Mo_bodyOf_s hM hc1 (fun hu => ?_) (fun hu c hc7 _ _ => ?_))
        · refine x_iconst (v := -1) d_Mo_turn_65 (by decide) ?_
          refine x_icmp_eq (tgt := 73) d_Mo_turn_66 (by decide) (fun c66 => ?_) (fun c66 => absurd rfl c66)
          refine x_iconst (v := 0) d_Mo_turn_73 (by decide) ?_
          exact Wq.fg (j74 0 (by rw [hgo, hu]; rfl)) ⟨rfl, rfl, rfl, rfl, trivial⟩
        · refine x_iconst (v := -1) d_Mo_turn_65 (by decide) ?_
          refine x_icmp_eq (tgt := 73) d_Mo_turn_66 (by decide) (fun c66 => absurd c66 (nI_nm1 (by omega))) (fun c66 => ?_)
          refine x_iconst (v := 1) d_Mo_turn_69 (by decide) ?_
          refine x_goto (tgt := 74) d_Mo_turn_70 (by decide) ?_
          exact Wq.fg (j74 1 (by rw [hgo, hu]; rfl)) ⟨rfl, rfl, rfl, rfl, trivial⟩
      · exact absurd (nI_le hk200 (by omega)) c41
    · exact absurd (nI_le hk200 (by omega)) c20
set_option maxRecDepth 10000 in
set_option maxHeartbeats 1000000 in
theorem c_Mo_turn {G : Ctx} {d : Nat} {Γ : List Sh} {σ : Mem} {Q : Option Value → List Sh → Mem → Prop} {X : CS} {T : TS} {n : Nat} {S : GS} (hM : MoS Γ σ) (hX : SW (kP X) (kC X) ∧ BdW (kP X) (kC X) (kB X) ∧ mBd σ X ∧ mFn σ X) (hR : Rt σ T none) (hW : WF (kP X) T none) (hn : n < tN T) (h8 : kd T n = 8) (hQ : ∀ τ, FrI tuS σ τ → (∀ j, tuF j → τ.1 391 j = σ.1 391 j) → (tG (stl (kP X) (kC X) (kB X) T n S).2 = true → gW τ) → (tG (stl (kP X) (kC X) (kB X) T n S).2 = false → Rt τ (stl (kP X) (kC X) (kB X) T n S).2 none) → Q none Γ τ) : Ct G M_Mo_turn (d + 7) 0 0 [rf G 391, .int (nI n)] Γ σ Q := by
  cases hC : isC ((tmn T n).getD 0 (-1)) with
  | true => exact c_Mo_turn_c hM hX hR hW hn h8 hQ hC
  | false => exact c_Mo_turn_l hM hX hR hW hn h8 hQ hC
