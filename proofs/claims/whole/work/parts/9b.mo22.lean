/-! SuperDriverModel: let -/
theorem WF_let0 {pt : Nat → Int32} {T : TS} {n V0 : Nat} {S : GS} {zu zl : List Int32} (hW : WF pt T (some n)) (hn : n < tN T) (hC : Ch T n (tN T) 0) (hU : ∀ m, m < tN T → m ≠ n → kd T m = 6 → lkn T m 9 ≠ some n) (hI : CI (nP (sgP pt)) V0 zu zl 0 S T) (hzu : al (gA pt V0) zu) :
    WF pt (tLet0 T n S) (some n) ∧ Ch (tLet0 T n S) n (tN T) 0 ∧ kd (tLet0 T n S) n = 7 ∧ tmn (tLet0 T n S) n = tmn T n ∧ tmq (nP (sgP pt)) (gA pt (tV T)) (gL S) := by
  obtain ⟨c1, c2, c3, c4, c5⟩ := hI
  have hV := hW.1.2.1
  have hx : ndW pt (tV T) (xi (nBecome (tD T n) 7 (nI (gC S))) 13 (gF S)) := by
    have hb := ndW_bec (k := 7) (v := nI (gC S)) (hW.2.2 n hn).1 ⟨7, by omega, rfl⟩ (fun z => by rcases z with z | z <;> exact absurd z (by decide)) (fun z => absurd z (by decide)) (fun z => absurd z (by decide)) (fun z => by rcases z with z | z | z | z | z <;> exact absurd z (by decide))
    exact hb
  have hxl : ndL (tN T) n (xi (nBecome (tD T n) 7 (nI (gC S))) 13 (gF S)) := by
    have z : ndL (tN T) n (nBecome (tD T n) 7 (nI (gC S))) := (hW.1.2.2 n hn).become
    exact z
  have hkd : kd (tLet0 T n S) n = 7 := by unfold kd tLet0; rw [tD_up]; rfl
  refine ⟨hW.set hn hx hxl rfl rfl rfl rfl rfl (fun z => ?_) hU, ⟨hC.1, hC.2.1, ?_, ?_, fun i hi => absurd hi (Nat.not_lt_zero _)⟩, hkd, ?_, ?_, fun s hs => ?_⟩
  · have : kd (tLet0 T n S) n = 6 := z
    rw [hkd] at this; exact absurd this (by decide)
  · have := hC.2.2.1
    unfold lkn tLet0 at *
    rw [tD_up]
    exact this
  · have := hC.2.2.2.1
    unfold lkn tLet0 at *
    rw [tD_up]
    exact this
  · show ntm _ = _; unfold tLet0; rw [tD_up]; rfl
  · have := c1 [] rfl; rw [List.append_nil] at this; exact this
  · rcases c4 s hs with z | ⟨k, hk, e⟩
    · obtain ⟨k, g1, g2, g3⟩ := hzu s z.1
      refine ⟨k, g1, g2, ?_⟩
      unfold gA at g3 ⊢
      rcases g3 with g3 | g3 | g3
      · exact Or.inl ⟨by omega, g3.2⟩
      · exact Or.inr (Or.inl g3)
      · exact Or.inr (Or.inr g3)
    · exact ⟨V0 + k, by omega, e, Or.inl ⟨by omega, by omega⟩⟩
set_option maxRecDepth 10000 in
set_option maxHeartbeats 1000000 in
theorem c_Mo_let {G : Ctx} {d : Nat} {Γ : List Sh} {σ : Mem} {Q : Option Value → List Sh → Mem → Prop} {σ0 : Mem} {pt : Nat → Int32} {cs : Nat → Bool} {T : TS} {n V0 cp : Nat} {S : GS} {st : Nat → Nat} {zu zl : List Int32} (hM : MoS Γ σ) (hσ : σ = wI (wI σ0 400 n 7) 405 n (σ0.1 391 13)) (hS : SW pt cs) (hp : ∀ f, f < 8 → σ0.1 393 f = pt (200 + f)) (hR : Rt σ0 T (some n)) (hW : WF pt T (some n)) (hn : n < tN T) (hC : Ch T n (tN T) 0) (hU : ∀ m, m < tN T → m ≠ n → kd T m = 6 → lkn T m 9 ≠ some n) (hI : CI (nP (sgP pt)) V0 zu zl 0 S T) (hzu : al (gA pt V0) zu) (hc40 : gC S ≤ 40) (hll0 : (gL S).length ≤ 40) (hst : ∀ i, i < gC S → st i < (tmn T n).length) (hsp : Γ[cp]? = some (1, 40)) (hcp : cp = 423 ∨ cp = 424) (hpr : σ.1 391 40 = nI (gC S)) (hcs : σ.1 391 38 = nI (gL S).length) (hcm : seg σ 422 0 (gL S)) (hpl : ∀ k, k < gC S → σ.1 cp k = nI (40 * n + st k)) (hQ : ∀ τ, FrI [391, 400, 401, 402, 403, 404, 405, 406, 407] σ τ → (∀ j, j ≠ 12 → j ≠ 13 → τ.1 391 j = σ.1 391 j) → (tG (tLet (sgP pt) T n S st) = true → gW τ) → (tG (tLet (sgP pt) T n S st) = false → Rt τ (tLet (sgP pt) T n S st) none) → Q none Γ τ) : Ct G M_Mo_let (d + 3) 0 0 [rf G 391, .int (nI n), .int (nI V0), rf G cp] Γ σ Q := by
  have hcpS : cp ∉ ([391, 400, 401, 402, 403, 404, 405, 406, 407] : List Nat) := by simp; omega
  subst hσ
  have hN48 := hW.1.1
  have hP := hS.ok.1
  obtain ⟨w1, w2, w3, w4, w5⟩ := WF_let0 hW hn hC hU hI hzu
  have hlz : (tmn T n).length ≤ 40 := (hW.1.2.2 n hn).1
  generalize hzs : tmn T n = zs at *
  have htz : tmq (nP (sgP pt)) (gA pt (tV T)) zs := by rw [← hzs]; exact (hW.2.2 n hn).1.1
  have hfz := htz.1
  have hpa0 : pAll σ0 (nP (sgP pt)) zs := pAll_of hS hp htz.2 gA_k
  have h0393 : (wI (wI σ0 400 n 7) 405 n (σ0.1 391 13)).1 393 = σ0.1 393 := by rw [wI_o (by decide), wI_o (by decide)]
  generalize hT2' : tLet (sgP pt) T n S st = T2 at hQ
  have lp : ∀ (f k : Nat) (T1 : TS) (τ : Mem), k ≤ gC S → gC S < k + f → tLetL (sgP pt) n zs false st (gC S - k) k T1 = T2 → FrI [391, 400, 401, 402, 403, 404, 405, 406, 407] (wI (wI σ0 400 n 7) 405 n (σ0.1 391 13)) τ → (∀ j, j ≠ 12 → j ≠ 13 → τ.1 391 j = (wI (wI σ0 400 n 7) 405 n (σ0.1 391 13)).1 391 j) → seg τ 402 (40 * n) zs → St pt τ T1 (some n) → (tG T1 = false → Ch T1 n (tN T) (k + 1) ∧ tN T + (k + 1) = tN T1 ∧ τ.1 405 n = nI (tN T) ∧ τ.1 406 n = nI (1 + gC S) ∧ (1 < gC S + 1 → τ.1 407 n = (tD T1 n).1 13) ∧ kd T1 n = 7 ∧ tmn T1 n = zs ∧ tmq (nP (sgP pt)) (gA pt (tV T1)) zs) → Wq G M_Mo_let (Em G (d + 3) 0 0 Q) 0 0 46 [some (rf G 391), some (.int (nI n)), some (.int (nI V0)), some (rf G cp), some (.int (nI k))] [] [] Γ τ := by
    intro f
    induction f with
    | zero => intro k T1 τ h1 h2; omega
    | succ f ih =>
    intro k T1 τ hkle hkf hT2 f0 h391 hseg hSt hng
    have hM := hM.fr f0
    have hpa : pAll τ (nP (sgP pt)) zs := fun s hs => by
      obtain ⟨q, e, ok, h, h6⟩ := hpa0 s hs
      refine ⟨q, e, ok, ?_, h6⟩
      unfold mPk at h ⊢
      rw [f0.2 393 (by simp), f0.2 412 (by simp), wI_o (by decide), wI_o (by decide), wI_o (by decide), wI_o (by decide)]
      exact h
    refine x_iload d_Mo_let_46 rfl ?_
    first | refine x_aload_n d_Mo_let_48 rfl rfl ?_ | refine x_aloadN_n d_Mo_let_48 rfl rfl ?_ | refine x_aloadE_n d_Mo_let_48 rfl rfl ?_ | refine x_aloadO_n d_Mo_let_48 rfl rfl ?_
    refine x_getI d_Mo_let_49 f_Mo_216 rfl (by first | exact hM.1 | exact hM.s rfl | assumption) ?_
    rw [h391 40 (by decide) (by decide), hpr]
    refine x_icmp_ge (tgt := 86) d_Mo_let_52 (by decide) (fun c52 => ?_) (fun c52 => ?_)
    · have e : k = gC S := by have := (nI_leI (by omega) (by omega)).mp c52; omega
      subst e
      rw [Nat.sub_self] at hT2
      have hT1 : T1 = T2 := hT2
      subst hT1
      exact x_return d_Mo_let_86 rfl (hQ τ f0 h391 hSt.1 (fun hg => by
        obtain ⟨q1, q2, q3, q4, q5, q6, q7, q8⟩ := hng hg
        refine (hSt.2 hg).1.close (fun _ b' c' hbc => ?_)
        obtain ⟨u1, u2⟩ := Ch_u hbc q1
        refine ⟨by rw [q4, u1, Nat.add_comm], fun hc => by rw [q3, u2 hc], fun _ hc => q5 (by omega), fun z => ?_⟩
        rw [q6] at z
        exact absurd z (by decide)))
    · have hkC : k < gC S := Nat.not_le.mp fun z => c52 (nI_le z (by omega))
      have hst1 := hst k hkC
      obtain ⟨m1, hm1⟩ := full_sfx hfz hst1
      have hbh : behind (sgP pt) zs (st k) = st k + tk (nP (sgP pt)) 1 (zs.drop (st k)) := behind_tk hP (by omega) _
      have hble : behind (sgP pt) zs (st k) ≤ zs.length := behind_le (by omega)
      have hll : ((zs.take (behind (sgP pt) zs (st k))).drop (st k)).length = tk (nP (sgP pt)) 1 (zs.drop (st k)) := by rw [List.length_drop, List.length_take]; omega
      have hsegl : seg τ 402 (40 * n + st k) ((zs.take (behind (sgP pt) zs (st k))).drop (st k)) := hseg.take.drop
      have hn1 : tG T1 = false → n < tN T1 := fun hg => by have := hng hg; omega
      first | refine x_aload_n d_Mo_let_55 rfl rfl ?_ | refine x_aloadN_n d_Mo_let_55 rfl rfl ?_ | refine x_aloadE_n d_Mo_let_55 rfl rfl ?_ | refine x_aloadO_n d_Mo_let_55 rfl rfl ?_
      refine x_iload_n d_Mo_let_56 rfl rfl ?_
      first | refine x_aload_n d_Mo_let_57 rfl rfl ?_ | refine x_aloadN_n d_Mo_let_57 rfl rfl ?_ | refine x_aloadE_n d_Mo_let_57 rfl rfl ?_ | refine x_aloadO_n d_Mo_let_57 rfl rfl ?_
      refine x_getR d_Mo_let_58 f_Mo_41 rfl (by first | exact hM.1 | exact hM.s rfl | assumption) (hM.r rfl) ?_
      first | refine x_aload_n d_Mo_let_61 rfl rfl ?_ | refine x_aloadN_n d_Mo_let_61 rfl rfl ?_ | refine x_aloadE_n d_Mo_let_61 rfl rfl ?_ | refine x_aloadO_n d_Mo_let_61 rfl rfl ?_
      refine x_iload d_Mo_let_62 rfl ?_
      refine x_iald d_Mo_let_64 (by exact hsp) (vp_in_nI (show k < 40 by omega) (by decide)) ?_
      rw [nI_clamp (by omega), f0.2 cp hcpS, hpl k hkC]
      first | refine x_aload_n d_Mo_let_65 rfl rfl ?_ | refine x_aloadN_n d_Mo_let_65 rfl rfl ?_ | refine x_aloadE_n d_Mo_let_65 rfl rfl ?_ | refine x_aloadO_n d_Mo_let_65 rfl rfl ?_
      first | refine x_aload_n d_Mo_let_66 rfl rfl ?_ | refine x_aloadN_n d_Mo_let_66 rfl rfl ?_ | refine x_aloadE_n d_Mo_let_66 rfl rfl ?_ | refine x_aloadO_n d_Mo_let_66 rfl rfl ?_
      refine x_getR d_Mo_let_67 f_Mo_41 rfl (by first | exact hM.1 | exact hM.s rfl | assumption) (hM.r rfl) ?_
      first | refine x_aload_n d_Mo_let_70 rfl rfl ?_ | refine x_aloadN_n d_Mo_let_70 rfl rfl ?_ | refine x_aloadE_n d_Mo_let_70 rfl rfl ?_ | refine x_aloadO_n d_Mo_let_70 rfl rfl ?_
      refine x_iload d_Mo_let_71 rfl ?_
      refine x_iald d_Mo_let_73 (by exact hsp) (vp_in_nI (show k < 40 by omega) (by decide)) ?_
      rw [nI_clamp (by omega), f0.2 cp hcpS, hpl k hkC]
      refine x_callV2 d_Mo_let_74 k_Mo_end l_Mo_164 v_Mo_end rfl s_Mo_end (by first | exact hM.1 | exact hM.s rfl | assumption) RoomE.m (Nat.le_of_ble_eq_true rfl) (c_Mo_end (i := st k) (m := m1) hM (hM.s rfl) hseg (by omega) (by decide) hpa hm1 ?_)
      refine x_callV4 d_Mo_let_77 k_Mo_add l_Mo_205 v_Mo_add rfl s_Mo_add (by first | exact hM.1 | exact hM.s rfl | assumption) RoomE.m (Nat.le_of_ble_eq_true rfl) (c_Mo_addT (T := T1) (l := ((zs.take (behind (sgP pt) zs (st k))).drop (st k))) hM (hM.s rfl) (by decide) (by rw [hll]; omega) (by decide) hsegl hSt (by rw [hll]) (fun hg => ⟨hn1 hg, ⟨_, _, (hng hg).1⟩, Or.inr (by rw [hll]; have := hn1 hg; omega)⟩) (fun τ1 g1 g2 f1 o1 t1 mm => ?_))
      have hM1 := hM.fr f1
      have hM := hM1
      refine x_iinc (v := nI (k + 1)) d_Mo_let_80 rfl (nI_1 k) rfl ?_
      refine x_goto (tgt := 46) d_Mo_let_83 (by decide) ?_
      have hadd : tG (tAdd T1 (some n) ((zs.take (behind (sgP pt) zs (st k))).drop (st k)) false).1 = false → tG T1 = false ∧ _ := fun z => ⟨(tAdd_ok z).2.2.2.1, (hSt.2 (tAdd_ok z).2.2.2.1).2.add (hn1 (tAdd_ok z).2.2.2.1) (hng (tAdd_ok z).2.2.2.1).1 (hng (tAdd_ok z).2.2.2.1).2.1 (by rw [(hng (tAdd_ok z).2.2.2.1).2.2.2.2.2.1]; decide) (seg1 hP (by omega) (hng (tAdd_ok z).2.2.2.1).2.2.2.2.2.2.2 hst1) z⟩
      refine Wq.fg (ih (k + 1) (tAdd T1 (some n) ((zs.take (behind (sgP pt) zs (st k))).drop (st k)) false).1 τ1 (by omega) (by omega) (by rw [← hT2, show gC S - k = (gC S - (k + 1)) + 1 by omega]; rfl) (f0.tr (f1.mono (by simp))) (fun j a1 a2 => by rw [o1 j a1 a2]; exact h391 j a1 a2) (fun i hi => by
        rw [t1 _ (fun hg => by have := hn1 hg; omega)]; exact hseg i hi) ⟨g1, fun z => ⟨g2 z, (hadd z).2.1⟩⟩ (fun z => ?_)) ⟨rfl, rfl, rfl, rfl, rfl, trivial⟩
      obtain ⟨hg0, r1, r2, r3, r4, r5, r6, r7⟩ := hadd z
      obtain ⟨q1, q2, q3, q4, q5, q6, q7, q8⟩ := hng hg0
      refine ⟨r2, by omega, by rw [f1.2 405 (by simp)]; exact q3, by rw [mm n (fun _ => hn1 hg0)]; exact q4, fun hc => by rw [f1.2 407 (by simp), (r6 n (hn1 hg0)).1]; exact q5 hc, by unfold kd at q6 ⊢; rw [(r6 n (hn1 hg0)).1]; exact q6, by rw [(r6 n (hn1 hg0)).2]; exact q7, by rw [r4]; exact q8⟩
  refine Ct.of (lv := [some (rf G 391), some (.int (nI n)), some (.int (nI V0)), some (rf G cp), none]) (ll := []) rfl rfl (EN.cat (n := 1) ⟨rfl, rfl, rfl, rfl, trivial⟩ (Nat.le_of_ble_eq_true rfl)) ?_
  first | refine x_aload_n d_Mo_let_0 rfl rfl ?_ | refine x_aloadN_n d_Mo_let_0 rfl rfl ?_ | refine x_aloadE_n d_Mo_let_0 rfl rfl ?_ | refine x_aloadO_n d_Mo_let_0 rfl rfl ?_
  refine x_getR d_Mo_let_1 f_Mo_47 rfl (by first | exact hM.1 | exact hM.s rfl | assumption) (hM.r rfl) ?_
  refine x_iload_n d_Mo_let_4 rfl rfl ?_
  first | refine x_aload_n d_Mo_let_5 rfl rfl ?_ | refine x_aloadN_n d_Mo_let_5 rfl rfl ?_ | refine x_aloadE_n d_Mo_let_5 rfl rfl ?_ | refine x_aloadO_n d_Mo_let_5 rfl rfl ?_
  refine x_getI d_Mo_let_6 f_Mo_216 rfl (by first | exact hM.1 | exact hM.s rfl | assumption) ?_
  rw [hpr]
  refine x_iast d_Mo_let_9 (by first | exact hM.1 | exact hM.s rfl | assumption) (vp_in_nI (show n < 48 by omega) (by decide)) ?_
  rw [nI_clamp (by omega)]
  first | refine x_aload_n d_Mo_let_10 rfl rfl ?_ | refine x_aloadN_n d_Mo_let_10 rfl rfl ?_ | refine x_aloadE_n d_Mo_let_10 rfl rfl ?_ | refine x_aloadO_n d_Mo_let_10 rfl rfl ?_
  refine x_getR d_Mo_let_11 f_Mo_56 rfl (by first | exact hM.1 | exact hM.s rfl | assumption) (hM.r rfl) ?_
  refine x_iload_n d_Mo_let_14 rfl rfl ?_
  refine x_iload_n d_Mo_let_15 rfl rfl ?_
  refine x_iast d_Mo_let_16 (by first | exact hM.1 | exact hM.s rfl | assumption) (vp_in_nI (show n < 48 by omega) (by decide)) ?_
  rw [nI_clamp (by omega)]
  first | refine x_aload_n d_Mo_let_17 rfl rfl ?_ | refine x_aloadN_n d_Mo_let_17 rfl rfl ?_ | refine x_aloadE_n d_Mo_let_17 rfl rfl ?_ | refine x_aloadO_n d_Mo_let_17 rfl rfl ?_
  refine x_getR d_Mo_let_18 f_Mo_53 rfl (by first | exact hM.1 | exact hM.s rfl | assumption) (hM.r rfl) ?_
  refine x_iload_n d_Mo_let_21 rfl rfl ?_
  refine x_iconst (v := 1) d_Mo_let_22 (by decide) ?_
  first | refine x_aload_n d_Mo_let_23 rfl rfl ?_ | refine x_aloadN_n d_Mo_let_23 rfl rfl ?_ | refine x_aloadE_n d_Mo_let_23 rfl rfl ?_ | refine x_aloadO_n d_Mo_let_23 rfl rfl ?_
  refine x_getI d_Mo_let_24 f_Mo_216 rfl (by first | exact hM.1 | exact hM.s rfl | assumption) ?_
  rw [wI_o (by decide), wI_o (by decide), hpr, show (1 : Int32) = nI 1 from rfl]
  refine x_iadd d_Mo_let_27 ?_
  rw [nI_add]
  refine x_iast d_Mo_let_28 (by first | exact hM.1 | exact hM.s rfl | assumption) (vp_in_nI (show n < 48 by omega) (by decide)) ?_
  rw [nI_clamp (by omega)]
  have hM3 : MoS Γ (wI (wI (wI (wI (wI σ0 400 n 7) 405 n (σ0.1 391 13)) 404 n (nI (gC S))) 407 n (nI V0)) 406 n (nI (1 + gC S))) := ((hM.w (a := 404) (j := n) (v := nI (gC S))).w (a := 407) (j := n) (v := nI V0)).w (a := 406) (j := n) (v := nI (1 + gC S))
  have hsg3 : seg (wI (wI (wI (wI (wI σ0 400 n 7) 405 n (σ0.1 391 13)) 404 n (nI (gC S))) 407 n (nI V0)) 406 n (nI (1 + gC S))) 422 0 (gL S) := fun i hi => by rw [wI_o (by decide), wI_o (by decide), wI_o (by decide)]; exact hcm i hi
  have hRb : Rt (wI (wI (wI (wI (wI σ0 400 n 7) 405 n (σ0.1 391 13)) 404 n (nI (gC S))) 407 n (nI V0)) 406 n (nI (1 + gC S))) (tLet0 T n S) (some n) := hR.set (n := n) (x := xi (nBecome (tD T n) 7 (nI (gC S))) 13 (gF S)) hW hn rfl rfl rfl rfl rfl (((((FrI.rf.put (by simp)).put (by simp)).put (by simp)).put (by simp)).put (by simp)) (fun j _ => by rw [wI_o (by decide), wI_o (by decide), wI_o (by decide), wI_o (by decide), wI_o (by decide)]) (fun j hj => by
    refine ⟨by rw [wI_o (by decide), wI_o (by decide), wI_o (by decide), wI_o (by decide), wI_j hj], by rw [wI_o (by decide), wI_o (by decide), wI_j hj, wI_o (by decide), wI_o (by decide)], by rw [wI_o (by decide), wI_o (by decide), wI_o (by decide), wI_j hj, wI_o (by decide)], by rw [wI_j hj, wI_o (by decide), wI_o (by decide), wI_o (by decide), wI_o (by decide)], by rw [wI_o (by decide), wI_j hj, wI_o (by decide), wI_o (by decide), wI_o (by decide)]⟩) (by rw [wI_o (by decide), wI_o (by decide), wI_o (by decide), wI_o (by decide), wI_s]; rfl) (fun _ _ => by rw [wI_o (by decide), wI_o (by decide), wI_s]; rfl) (by show (7 : Int32) ≠ 8; decide)
  have hSt0 : St pt (wI (wI (wI (wI (wI σ0 400 n 7) 405 n (σ0.1 391 13)) 404 n (nI (gC S))) 407 n (nI V0)) 406 n (nI (1 + gC S))) (tLet0 T n S) (some n) := ⟨fun z => absurd z (by rw [show tG (tLet0 T n S) = tG T from rfl, hW.2.1]; decide), fun _ => ⟨hRb, w1⟩⟩
  first | refine x_aload_n d_Mo_let_29 rfl rfl ?_ | refine x_aloadN_n d_Mo_let_29 rfl rfl ?_ | refine x_aloadE_n d_Mo_let_29 rfl rfl ?_ | refine x_aloadO_n d_Mo_let_29 rfl rfl ?_
  refine x_iload_n d_Mo_let_30 rfl rfl ?_
  first | refine x_aload_n d_Mo_let_31 rfl rfl ?_ | refine x_aloadN_n d_Mo_let_31 rfl rfl ?_ | refine x_aloadE_n d_Mo_let_31 rfl rfl ?_ | refine x_aloadO_n d_Mo_let_31 rfl rfl ?_
  refine x_getR d_Mo_let_32 f_Mo_101 rfl (by first | exact hM.1 | exact hM.s rfl | assumption) (hM.r rfl) ?_
  refine x_iconst (v := 0) d_Mo_let_35 (by decide) ?_
  first | refine x_aload_n d_Mo_let_36 rfl rfl ?_ | refine x_aloadN_n d_Mo_let_36 rfl rfl ?_ | refine x_aloadE_n d_Mo_let_36 rfl rfl ?_ | refine x_aloadO_n d_Mo_let_36 rfl rfl ?_
  refine x_getI d_Mo_let_37 f_Mo_223 rfl (by first | exact hM.1 | exact hM.s rfl | assumption) ?_
  rw [wI_o (by decide), wI_o (by decide), wI_o (by decide), hcs]
  refine x_callV4 d_Mo_let_40 k_Mo_add l_Mo_205 v_Mo_add rfl s_Mo_add (by first | exact hM.1 | exact hM.s rfl | assumption) RoomE.m (Nat.le_of_ble_eq_true rfl) (c_Mo_addT (pt := pt) (T := tLet0 T n S) (n := n) (q := 0) (l := gL S) hM3 (hM.s rfl) (by decide) (by omega) (by decide) hsg3 hSt0 (by rw [Nat.zero_add]) (fun _ => ⟨hn, ⟨_, _, w2⟩, Or.inl (by decide)⟩) (fun τ1 g1 g2 f1 o1 t1 mm => ?_))
  have hM1 := hM3.fr f1
  have hM := hM1
  refine x_iconst (v := 0) d_Mo_let_43 (by decide) ?_
  refine x_istore d_Mo_let_44 rfl ?_
  have hf5 : FrI [391, 400, 401, 402, 403, 404, 405, 406, 407] (wI (wI σ0 400 n 7) 405 n (σ0.1 391 13)) τ1 := (((FrI.rf.put (by simp)).put (by simp)).put (by simp)).tr (f1.mono (by simp))
  have hn0 : n < tN (tLet0 T n S) := hn
  have hadd : tG (tAdd (tLet0 T n S) (some n) (gL S) false).1 = false → _ := fun z => w1.add hn0 w2 (show tN T + 0 = tN T from rfl) (by rw [w3]; decide) w5 z
  refine Wq.fg (lp (gC S + 1) 0 (tAdd (tLet0 T n S) (some n) (gL S) false).1 τ1 (by omega) (by omega) (by
    rw [Nat.sub_zero, ← hT2', tLet, List.take_of_length_le hll0, List.take_of_length_le (show (ntm (tD T n)).length ≤ 40 by rw [show ntm (tD T n) = zs from hzs]; exact hlz), decide_eq_false (show ¬ 40 < (gL S).length by omega), decide_eq_false (show ¬ 40 < (ntm (tD T n)).length by rw [show ntm (tD T n) = zs from hzs]; omega), show ntm (tD T n) = zs from hzs]) hf5 (fun j a1 a2 => by rw [o1 j a1 a2, wI_o (by decide), wI_o (by decide), wI_o (by decide)]) (fun i hi => by
    rw [t1 _ (fun _ => by show 40 * n + i < 40 * tN T; omega), wI_o (by decide), wI_o (by decide), wI_o (by decide), wI_o (by decide), wI_o (by decide)]
    have := (hR.2.2.2 n hn).1.2.2.1.2
    rw [hzs] at this
    exact this i hi) ⟨g1, fun z => ⟨g2 z, (hadd z).1⟩⟩ (fun z => ?_)) ⟨rfl, rfl, rfl, rfl, by rw [nI_0], trivial⟩
  obtain ⟨r1, r2, r3, r4, r5, r6, r7⟩ := hadd z
  have e5 : ∀ a, a = 405 ∨ a = 407 → τ1.1 a = (wI (wI (wI (wI (wI σ0 400 n 7) 405 n (σ0.1 391 13)) 404 n (nI (gC S))) 407 n (nI V0)) 406 n (nI (1 + gC S))).1 a := fun a ha => f1.2 a (by rcases ha with ha | ha <;> (rw [ha]; simp))
  refine ⟨r2, by rw [r3]; rfl, by rw [e5 405 (Or.inl rfl), wI_o (by decide), wI_o (by decide), wI_o (by decide), wI_s]; exact hR.2.1, by rw [mm n (fun _ => hn0), wI_s], fun hc => ?_, by unfold kd at w3 ⊢; rw [(r6 n hn0).1]; exact w3, by rw [(r6 n hn0).2]; exact w4, by rw [r4]; exact htz⟩
  rw [e5 407 (Or.inr rfl), wI_o (by decide), wI_s, (r6 n hn0).1]
  have : (tD (tLet0 T n S) n).1 13 = gF S := by unfold tLet0; rw [tD_up]; rfl
  rw [this]
  exact (hI.2.2.1 (by omega)).symm
