/-! SuperDriverModel: add beside the class's tree; build -/
theorem tAdd_g {T : TS} {ab : Option Nat} {l : List Int32} (h : tG T = false) (h1 : tN T < 48) (h2 : l.length ≤ 40) : tG (tAdd T ab l false).1 = false := by
  unfold tAdd
  rw [if_neg (show ¬ (48 ≤ tN T ∨ 40 < l.length ∨ false = true) by simp; omega)]
  cases ab with
  | none => exact h
  | some p => show tG (tPut _ _ _) = false; rw [(tPut_o (k := 0)).2.2.2.2.2]; exact h
theorem tAdd_b {T : TS} {ab : Option Nat} {l : List Int32} (h1 : tN T = 48 ∨ 40 < l.length) : tG (tAdd T ab l false).1 = true := by
  unfold tAdd
  rw [if_pos (show 48 ≤ tN T ∨ 40 < l.length ∨ false = true by omega)]
  rfl
def trS : List Nat := [391, 400, 401, 402, 403, 404, 405, 406, 407, 408, 409]

set_option maxRecDepth 10000 in
set_option maxHeartbeats 1000000 in
theorem c_Mo_addG {G : Ctx} {d : Nat} {Γ : List Sh} {σ : Mem} {Q : Option Value → List Sh → Mem → Prop} {up : Int32} {c q N Nc : Nat} {l : List Int32} {g : Bool} (hM : MoS Γ σ) (hs : Γ[c]? = some (1, Nc)) (hNc : q + l.length ≤ Nc) (hNc2 : Nc ≤ 30000) (hg : σ.1 391 12 = bI g) (hN : σ.1 391 13 = nI N) (hN48a : N ≤ 48) (hgt : g = true) (hQ : Q none Γ (wI σ 391 12 1)) : Ct G M_Mo_add d 0 0 [rf G 391, .int up, rf G c, .int (nI q), .int (nI (q + l.length))] Γ σ Q := by
  refine Ct.of (lv := [some (rf G 391), some (.int up), some (rf G c), some (.int (nI q)), some (.int (nI (q + l.length))), none]) (ll := []) rfl rfl (EN.cat (n := 1) ⟨rfl, rfl, rfl, rfl, rfl, trivial⟩ (Nat.le_of_ble_eq_true rfl)) ?_
  first | refine x_aload_n d_Mo_add_0 rfl rfl ?_ | refine x_aloadN_n d_Mo_add_0 rfl rfl ?_ | refine x_aloadE_n d_Mo_add_0 rfl rfl ?_ | refine x_aloadO_n d_Mo_add_0 rfl rfl ?_
  first | refine x_aload_n d_Mo_add_1 rfl rfl ?_ | refine x_aloadN_n d_Mo_add_1 rfl rfl ?_ | refine x_aloadE_n d_Mo_add_1 rfl rfl ?_ | refine x_aloadO_n d_Mo_add_1 rfl rfl ?_
  refine x_getI d_Mo_add_2 f_Mo_177 rfl (by first | exact hM.1 | exact hM.s rfl | assumption) ?_
  rw [hg, hgt]
  refine x_if_ne (tgt := 26) d_Mo_add_5 (by decide) (fun c5 => ?_) (fun c5 => ?_)
  · refine x_iconst (v := 1) d_Mo_add_26 (by decide) ?_
    refine x_goto (tgt := 31) d_Mo_add_27 (by decide) ?_
    refine x_putI d_Mo_add_31 (w_Mo_m_177 _) rfl (by first | rfl | decide) (by first | rfl | decide) (by first | exact hM.1 | exact hM.s rfl | assumption) ?_
    first | refine x_aload_n d_Mo_add_34 rfl rfl ?_ | refine x_aloadN_n d_Mo_add_34 rfl rfl ?_ | refine x_aloadE_n d_Mo_add_34 rfl rfl ?_ | refine x_aloadO_n d_Mo_add_34 rfl rfl ?_
    refine x_getI d_Mo_add_35 f_Mo_177 rfl (by first | exact hM.1 | exact hM.s rfl | assumption) ?_
    rw [wI_s]
    refine x_if_eq (tgt := 42) d_Mo_add_38 (by decide) (fun c38 => ?_) (fun c38 => ?_)
    · exact absurd c38 (by decide)
    · exact x_return d_Mo_add_41 rfl hQ
  · exact absurd c5 (by decide)
/-- the tree on both sides, or too great on both -/
def St (pt : Nat → Int32) (τ : Mem) (T : TS) (h : Option Nat) : Prop := (tG T = true → gW τ) ∧ (tG T = false → Rt τ T h ∧ WF pt T h)
set_option maxRecDepth 10000 in
set_option maxHeartbeats 1000000 in
theorem c_Mo_addT {G : Ctx} {d : Nat} {Γ : List Sh} {σ : Mem} {Q : Option Value → List Sh → Mem → Prop} {pt : Nat → Int32} {T : TS} {n c q Nc : Nat} {l : List Int32} {e : Int32} (hM : MoS Γ σ) (hs : Γ[c]? = some (1, Nc)) (hc : c < 391 ∨ 400 ≤ c ∧ (c = 402 ∨ 409 < c) ∨ c = 397) (hNc : q + l.length ≤ Nc) (hNc2 : Nc ≤ 30000) (hseg : seg σ c q l) (hS : St pt σ T (some n)) (he : e = nI (q + l.length)) (hn : tG T = false → n < tN T ∧ (∃ b c, Ch T n b c) ∧ (c ≠ 402 ∨ q + l.length ≤ 40 * tN T))
    (hQ : ∀ σ', (tG (tAdd T (some n) l false).1 = true → gW σ') → (tG (tAdd T (some n) l false).1 = false → Rt σ' (tAdd T (some n) l false).1 (some n)) → FrI [391, 400, 401, 402, 403, 404, 406] σ σ' → (∀ j, j ≠ 12 → j ≠ 13 → σ'.1 391 j = σ.1 391 j) → (∀ j, (tG T = false → j < 40 * tN T) → σ'.1 402 j = σ.1 402 j) → (∀ j, (tG T = false → j < tN T) → σ'.1 406 j = σ.1 406 j) → Q none Γ σ') : Ct G M_Mo_add d 0 0 [rf G 391, .int (nI n), rf G c, .int (nI q), .int e] Γ σ Q := by
  subst he
  have hfr : FrI [391, 400, 401, 402, 403, 404, 406] σ (wI σ 391 12 1) := FrI.rf.put (by simp)
  cases hg : tG T with
  | true =>
    obtain ⟨g12, N, hN48, hN, hrest⟩ := hS.1 hg
    have hgw : gW (wI σ 391 12 1) := ⟨wI_s, (show gw σ from ⟨N, hN48, hN, hrest⟩).cg (wI_o (by decide)) (wI_o (by decide)) (wI_o (by decide)) (wI_j (by decide))⟩
    rw [hg] at hQ
    by_cases hsp : c ≠ 402 ∨ q + l.length ≤ 40 * N
    · exact c_Mo_add (g := true) hM hs hc hNc hNc2 hseg (by rw [g12]; rfl) hN hN48 hsp (fun _ => hQ _ (fun _ => hgw) (fun z => by rw [tAdd_G hg] at z; cases z) hfr (fun j h1 _ => wI_j h1) (fun j _ => by rw [wI_o (by decide)]) (fun j _ => by rw [wI_o (by decide)])) (fun z => by cases z)
    · exact c_Mo_addG (g := true) hM hs hNc hNc2 (by rw [g12]; rfl) hN hN48 rfl (hQ _ (fun _ => hgw) (fun z => by rw [tAdd_G hg] at z; cases z) hfr (fun j h1 _ => wI_j h1) (fun j _ => by rw [wI_o (by decide)]) (fun j _ => by rw [wI_o (by decide)]))
  | false =>
    obtain ⟨hR, hW⟩ := hS.2 hg
    obtain ⟨hn1, hn2, hsp⟩ := hn hg
    refine c_Mo_add (g := false) (N := tN T) hM hs hc hNc hNc2 hseg (by rw [hR.1]; rfl) hR.2.1 hW.1.1 hsp (fun z => ?_) (fun _ h48 h40 σ' hF => ?_)
    · have hgr := tAdd_b (T := T) (ab := some n) (l := l) (by rcases z with z | z | z; cases z; exact Or.inl z; exact Or.inr z)
      exact hQ _ (fun _ => hR.gW hW) (fun y => by rw [hgr] at y; cases y) hfr (fun j h1 _ => wI_j h1) (fun j _ => by rw [wI_o (by decide)]) (fun j _ => by rw [wI_o (by decide)])
    · have hgo := tAdd_g (ab := some n) hg h48 h40
      refine hQ _ (fun y => by rw [hgo] at y; cases y) (fun _ => hR.add hW hn1 hgo hn2 hF) hF.1 hF.2.1 (fun j hj => hF.2.2.2.2.2.2.2.2.2.2 j (hj hg)) (fun j hj => ?_)
      have := hj hg
      rw [hF.2.2.2.2.2.2.2.2.1, if_neg (by omega)]
theorem Rt.many {σ : Mem} {T : TS} {n : Nat} {v : Int32} (h : Rt σ T (some n)) (hx : True) (h8 : kd T n ≠ 8) : Rt (wI σ 406 n v) T (some n) := by
  refine ⟨by rw [wI_o (by decide)]; exact h.1, by rw [wI_o (by decide)]; exact h.2.1, by rw [wI_o (by decide)]; exact h.2.2.1, fun k hk => ?_⟩
  obtain ⟨⟨r1, r2, r3, r4, r5⟩, r7⟩ := h.2.2.2 k hk
  refine ⟨⟨by rw [wI_o (by decide)]; exact r1, by rw [wI_o (by decide)]; exact r2, ⟨by rw [wI_o (by decide)]; exact r3.1, fun i hi => by rw [wI_o (by decide)]; exact r3.2 i hi⟩, by rw [wI_o (by decide)]; exact r4, fun z => ?_⟩, fun hh => ?_⟩
  · have : k ≠ n := fun y => h8 (y ▸ z)
    rw [wI_j this]; exact r5 z
  · have : k ≠ n := fun y => hh (by rw [y])
    have r := r7 hh
    unfold RC RK at r ⊢
    rw [wI_j this, wI_o (by decide), wI_o (by decide), wI_o (by decide), wI_o (by decide)]
    exact r
theorem trivT : True := trivial
set_option maxRecDepth 10000 in
set_option maxHeartbeats 1000000 in
theorem c_Mo_build {G : Ctx} {d : Nat} {Γ : List Sh} {σ : Mem} {Q : Option Value → List Sh → Mem → Prop} {pt : Nat → Int32} {cs : Nat → Bool} {T : TS} {n : Nat} (hM : MoS Γ σ) (hS : SW pt cs) (hp : ∀ f, f < 8 → σ.1 393 f = pt (200 + f)) (hR : Rt σ T none) (hW : WF pt T none) (hn : n < tN T) (h8 : kd T n = 8) (hQ : ∀ τ, FrI trS σ τ → (∀ j, j ≠ 12 → j ≠ 13 → τ.1 391 j = σ.1 391 j) → (tG (tBld (sgP pt) n (tmn T n) false (nP (sgP pt) ((tmn T n).getD 0 (-1))) 1 (tUp T n (nBecome (tD T n) 2 ((tmn T n).getD 0 (-1) - 100)))) = true → gW τ) → (tG (tBld (sgP pt) n (tmn T n) false (nP (sgP pt) ((tmn T n).getD 0 (-1))) 1 (tUp T n (nBecome (tD T n) 2 ((tmn T n).getD 0 (-1) - 100)))) = false → Rt τ (tBld (sgP pt) n (tmn T n) false (nP (sgP pt) ((tmn T n).getD 0 (-1))) 1 (tUp T n (nBecome (tD T n) 2 ((tmn T n).getD 0 (-1) - 100)))) none) → Q none Γ τ) : Ct G M_Mo_build (d + 3) 0 0 [rf G 391, .int (nI n)] Γ σ Q := by
  have hn48 : n < 48 := by have := hW.1.1; omega
  have hP := hS.ok.1
  have hlz : (tmn T n).length ≤ 40 := (hW.1.2.2 n hn).1
  generalize hzs : tmn T n = zs at *
  have htz : tmq (nP (sgP pt)) (gA pt (tV T)) zs := by rw [← hzs]; exact (hW.2.2 n hn).1.1
  have hz0 := full_ne htz.1
  have hpa0 : pAll σ (nP (sgP pt)) zs := pAll_of hS hp htz.2 gA_k
  obtain ⟨k, ek, hok, hpk0, hq60⟩ := hpa0.getD hz0
  rw [ek] at hpk0 hq60 hQ
  generalize hprt : nP (sgP pt) (nI k) = prt at *
  generalize hT2' : tBld (sgP pt) n zs false prt 1 (tUp T n (nBecome (tD T n) 2 (nI k - 100))) = T2 at hQ
  have lp : ∀ (f j pl : Nat) (T1 : TS) (τ : Mem), j ≤ prt → prt < j + f → tBld (sgP pt) n zs false (prt - j) pl T1 = T2 → FrI [391, 400, 401, 402, 403, 404, 405, 406] σ τ → (∀ j, j ≠ 12 → j ≠ 13 → τ.1 391 j = σ.1 391 j) → seg τ 402 (40 * n) zs → full (nP (sgP pt)) (prt - j) (zs.drop pl) = true → St pt τ T1 (some n) → (tG T1 = false → Ch T1 n (tN T) j ∧ tN T + j = tN T1 ∧ τ.1 405 n = nI (tN T) ∧ τ.1 406 n = nI j ∧ kd T1 n = 2 ∧ tmn T1 n = zs ∧ n < tN T) → (tG T1 = false → tmq (nP (sgP pt)) (gA pt (tV T1)) zs) → Wq G M_Mo_build (Em G (d + 3) 0 0 Q) 0 0 15 [some (rf G 391), some (.int (nI n)), some (.int (nI (40 * n + pl))), some (.int (nI j)), none] [] [] Γ τ := by
    intro f
    induction f with
    | zero => intro j pl T1 τ h1 h2; omega
    | succ f ih =>
    intro j pl T1 τ hjle hk hT2 f0 h391 hseg hf hSt hng hzm
    have hM := hM.fr f0
    have hpa : pAll τ (nP (sgP pt)) zs := hpa0.fr f0 (by simp) (by simp)
    have hpk : mPk τ k = nI prt := by unfold mPk; rw [f0.2 393 (by simp), f0.2 412 (by simp)]; exact hpk0
    refine x_iload_n d_Mo_build_15 rfl rfl ?_
    first | refine x_aload_n d_Mo_build_16 rfl rfl ?_ | refine x_aloadN_n d_Mo_build_16 rfl rfl ?_ | refine x_aloadE_n d_Mo_build_16 rfl rfl ?_ | refine x_aloadO_n d_Mo_build_16 rfl rfl ?_
    first | refine x_aload_n d_Mo_build_17 rfl rfl ?_ | refine x_aloadN_n d_Mo_build_17 rfl rfl ?_ | refine x_aloadE_n d_Mo_build_17 rfl rfl ?_ | refine x_aloadO_n d_Mo_build_17 rfl rfl ?_
    refine x_getR d_Mo_build_18 f_Mo_41 rfl (by first | exact hM.1 | exact hM.s rfl | assumption) (hM.r rfl) ?_
    refine x_bipush (v := 40) d_Mo_build_21 (by decide) ?_
    refine x_iload_n d_Mo_build_23 rfl rfl ?_
    refine x_imul d_Mo_build_24 ?_
    refine Wq.top (y := nI (40 * n + 0)) (by rw [mul40]; rfl) ?_
    refine x_iald d_Mo_build_25 (by first | exact hM.1 | exact hM.s rfl | assumption) (vp_in_nI (show 40 * n + 0 < 1920 by omega) (by decide)) ?_
    rw [nI_clamp (by omega), hseg 0 (by omega), ek]
    refine x_callV1 d_Mo_build_26 k_Mo_partsOf l_Mo_124 v_Mo_partsOf rfl s_Mo_partsOf (by first | exact hM.1 | exact hM.s rfl | assumption) RoomE.m (Nat.le_of_ble_eq_true rfl) (c_Mo_partsOf hM hok ?_)
    rw [hpk]
    refine x_icmp_ge (tgt := 74) d_Mo_build_29 (by decide) (fun c29 => ?_) (fun c29 => ?_)
    · have e : j = prt := by have := (nI_leI (by omega) (by omega)).mp c29; omega
      subst e
      rw [Nat.sub_self] at hT2
      have hT1 : T1 = T2 := hT2
      subst hT1
      exact x_return d_Mo_build_74 rfl (hQ τ (f0.mono (by simp [trS])) h391 (fun hg => hSt.1 hg) (fun hg => by
        obtain ⟨q1, q2, q3, q4, q5, q6, q7⟩ := hng hg
        refine (hSt.2 hg).1.close (fun _ b' c' hbc => ?_)
        obtain ⟨u1, u2⟩ := Ch_u hbc q1
        refine ⟨by rw [q4, u1], fun hc => by rw [q3, u2 hc], fun z => ?_, fun z => ?_⟩
        · rw [q5] at z
          exact absurd z (by decide)
        · rw [q5] at z
          exact absurd z (by decide)))
    · have hjp : j < prt := Nat.not_le.mp fun z => c29 (nI_le z (by omega))
      have hfj : full (nP (sgP pt)) (prt - j - 1 + 1) (zs.drop pl) = true := by rw [show prt - j - 1 + 1 = prt - j by omega]; exact hf
      have hpl : pl < zs.length := by have := full_ne hfj; rw [List.length_drop] at this; omega
      have hbh : behind (sgP pt) zs pl = pl + tk (nP (sgP pt)) 1 (zs.drop pl) := behind_tk hP (by omega) pl
      have hble : behind (sgP pt) zs pl ≤ zs.length := behind_le (by omega)
      have hll : ((zs.take (behind (sgP pt) zs pl)).drop pl).length = tk (nP (sgP pt)) 1 (zs.drop pl) := by rw [List.length_drop, List.length_take]; omega
      have hsegl : seg τ 402 (40 * n + pl) ((zs.take (behind (sgP pt) zs pl)).drop pl) := hseg.take.drop
      have hn1 : tG T1 = false → n < tN T1 := fun hg => by have := hng hg; omega
      first | refine x_aload_n d_Mo_build_32 rfl rfl ?_ | refine x_aloadN_n d_Mo_build_32 rfl rfl ?_ | refine x_aloadE_n d_Mo_build_32 rfl rfl ?_ | refine x_aloadO_n d_Mo_build_32 rfl rfl ?_
      first | refine x_aload_n d_Mo_build_33 rfl rfl ?_ | refine x_aloadN_n d_Mo_build_33 rfl rfl ?_ | refine x_aloadE_n d_Mo_build_33 rfl rfl ?_ | refine x_aloadO_n d_Mo_build_33 rfl rfl ?_
      refine x_getR d_Mo_build_34 f_Mo_41 rfl (by first | exact hM.1 | exact hM.s rfl | assumption) (hM.r rfl) ?_
      refine x_iload_n d_Mo_build_37 rfl rfl ?_
      refine x_callV2 d_Mo_build_38 k_Mo_end l_Mo_164 v_Mo_end rfl s_Mo_end (by first | exact hM.1 | exact hM.s rfl | assumption) RoomE.m (Nat.le_of_ble_eq_true rfl) (c_Mo_end (i := pl) (m := prt - j - 1) hM (hM.s rfl) hseg (by omega) (by decide) hpa hfj ?_)
      refine x_istore d_Mo_build_41 rfl ?_
      first | refine x_aload_n d_Mo_build_43 rfl rfl ?_ | refine x_aloadN_n d_Mo_build_43 rfl rfl ?_ | refine x_aloadE_n d_Mo_build_43 rfl rfl ?_ | refine x_aloadO_n d_Mo_build_43 rfl rfl ?_
      refine x_iload_n d_Mo_build_44 rfl rfl ?_
      first | refine x_aload_n d_Mo_build_45 rfl rfl ?_ | refine x_aloadN_n d_Mo_build_45 rfl rfl ?_ | refine x_aloadE_n d_Mo_build_45 rfl rfl ?_ | refine x_aloadO_n d_Mo_build_45 rfl rfl ?_
      refine x_getR d_Mo_build_46 f_Mo_41 rfl (by first | exact hM.1 | exact hM.s rfl | assumption) (hM.r rfl) ?_
      refine x_iload_n d_Mo_build_49 rfl rfl ?_
      refine x_iload d_Mo_build_50 rfl ?_
      refine x_callV4 d_Mo_build_52 k_Mo_add l_Mo_205 v_Mo_add rfl s_Mo_add (by first | exact hM.1 | exact hM.s rfl | assumption) RoomE.m (Nat.le_of_ble_eq_true rfl) (c_Mo_addT (l := (zs.take (behind (sgP pt) zs pl)).drop pl) hM (hM.s rfl) (by decide) (by rw [hll]; omega) (by decide) hsegl hSt (by rw [hll]) (fun hg => ⟨hn1 hg, ⟨tN T, j, (hng hg).1⟩, Or.inr (by rw [hll]; have := hn1 hg; omega)⟩) (fun τ1 g1 g2 f1 o1 t1 m1 => ?_))
      have hM1 := hM.fr f1
      have hM := hM1
      first | refine x_aload_n d_Mo_build_55 rfl rfl ?_ | refine x_aloadN_n d_Mo_build_55 rfl rfl ?_ | refine x_aloadE_n d_Mo_build_55 rfl rfl ?_ | refine x_aloadO_n d_Mo_build_55 rfl rfl ?_
      refine x_getR d_Mo_build_56 f_Mo_53 rfl (by first | exact hM.1 | exact hM.s rfl | assumption) (hM.r rfl) ?_
      refine x_iload_n d_Mo_build_59 rfl rfl ?_
      refine x_dup2 d_Mo_build_60 rfl rfl ?_
      refine x_iald d_Mo_build_61 (by first | exact hM.1 | exact hM.s rfl | assumption) (vp_in_nI hn48 (by decide)) ?_
      rw [nI_clamp (by omega)]
      refine x_iconst (v := 1) d_Mo_build_62 (by decide) ?_
      refine x_iadd d_Mo_build_63 ?_
      refine x_iast d_Mo_build_64 (by first | exact hM.1 | exact hM.s rfl | assumption) (vp_in_nI hn48 (by decide)) ?_
      rw [nI_clamp (by omega)]
      refine x_iload d_Mo_build_65 rfl ?_
      refine x_istore_n d_Mo_build_67 rfl rfl ?_
      refine x_iinc (v := nI (j + 1)) d_Mo_build_68 rfl (nI_1 j) rfl ?_
      refine x_goto (tgt := 15) d_Mo_build_71 (by decide) ?_
      have hbT : tBld (sgP pt) n zs false (prt - j) pl T1 = tBld (sgP pt) n zs false (prt - (j + 1)) (behind (sgP pt) zs pl) (tAdd T1 (some n) ((zs.take (behind (sgP pt) zs pl)).drop pl) false).1 := by
        rw [show prt - j = (prt - (j + 1)) + 1 by omega]; rfl
      have hadd : tG (tAdd T1 (some n) ((zs.take (behind (sgP pt) zs pl)).drop pl) false).1 = false → tG T1 = false ∧ _ := fun z => ⟨(tAdd_ok z).2.2.2.1, (hSt.2 (tAdd_ok z).2.2.2.1).2.add (hn1 (tAdd_ok z).2.2.2.1) (hng (tAdd_ok z).2.2.2.1).1 (hng (tAdd_ok z).2.2.2.1).2.1 (by rw [(hng (tAdd_ok z).2.2.2.1).2.2.2.2.1]; decide) (seg1 hP (by omega) (hzm (tAdd_ok z).2.2.2.1) hpl) z⟩
      refine Wq.fg (ih (j + 1) (behind (sgP pt) zs pl) (tAdd T1 (some n) ((zs.take (behind (sgP pt) zs pl)).drop pl) false).1 (wI τ1 406 n (τ1.1 406 n + 1)) (by omega) (by omega) (by rw [← hbT]; exact hT2) ((f0.tr (f1.mono (by simp))).put (by simp)) (fun j' a1 a2 => by rw [wI_o (by decide), o1 j' a1 a2]; exact h391 j' a1 a2) (fun i hi => by
        rw [wI_o (by decide), t1 _ (fun hg => by have := hn1 hg; omega)]; exact hseg i hi) (by
        have := (full_tk (zs.drop pl) 1 (prt - (j + 1)) (by rw [show 1 + (prt - (j + 1)) = prt - j by omega]; exact hf)).2
        rw [hbh, ← List.drop_drop]
        exact this) ⟨fun z => ?_, fun z => ⟨?_, ?_⟩⟩ (fun z => ?_) (fun z => ?_)) ⟨rfl, rfl, by rw [hbh, Nat.add_assoc], rfl, trivial⟩
      · obtain ⟨y1, y2⟩ := g1 z
        exact ⟨by rw [wI_o (by decide)]; exact y1, y2.cg (wI_o (by decide)) (wI_o (by decide)) (wI_o (by decide)) (by rw [wI_o (by decide)])⟩
      · obtain ⟨hg0, r1, r2, r3, r4, r5, r6, r7⟩ := hadd z
        exact (g2 z).many trivial (by unfold kd; rw [(r6 n (hn1 hg0)).1]; exact fun y => by have := (hng hg0).2.2.2.2.1; unfold kd at this; rw [this] at y; exact absurd y (by decide))
      · exact (hadd z).2.1
      · obtain ⟨hg0, r1, r2, r3, r4, r5, r6, r7⟩ := hadd z
        obtain ⟨q1, q2, q3, q4, q5, q6, q7⟩ := hng hg0
        refine ⟨r2, by omega, by rw [wI_o (by decide), f1.2 405 (by simp)]; exact q3, by rw [wI_s, m1 n (fun _ => hn1 hg0), q4, nI_1], by unfold kd at q5 ⊢; rw [(r6 n (hn1 hg0)).1]; exact q5, by rw [(r6 n (hn1 hg0)).2]; exact q6, q7⟩
      · obtain ⟨hg0, r1, r2, r3, r4, r5, r6, r7⟩ := hadd z
        rw [r4]
        exact hzm hg0
  refine Ct.of (lv := [some (rf G 391), some (.int (nI n)), none, none, none]) (ll := []) rfl rfl (EN.cat (n := 3) ⟨rfl, rfl, trivial⟩ (Nat.le_of_ble_eq_true rfl)) ?_
  first | refine x_aload_n d_Mo_build_0 rfl rfl ?_ | refine x_aloadN_n d_Mo_build_0 rfl rfl ?_ | refine x_aloadE_n d_Mo_build_0 rfl rfl ?_ | refine x_aloadO_n d_Mo_build_0 rfl rfl ?_
  refine x_iload_n d_Mo_build_1 rfl rfl ?_
  refine x_iconst (v := 2) d_Mo_build_2 (by decide) ?_
  refine x_callV2 d_Mo_build_3 k_Mo_becomes l_Mo_201 v_Mo_becomes rfl s_Mo_becomes (by first | exact hM.1 | exact hM.s rfl | assumption) RoomE.m (Nat.le_of_ble_eq_true rfl) (c_Mo_becomes hM hn48 ?_)
  refine x_bipush (v := 40) d_Mo_build_6 (by decide) ?_
  refine x_iload_n d_Mo_build_8 rfl rfl ?_
  skip
  refine x_imul d_Mo_build_9 ?_
  rw [mul40]
  refine x_iconst (v := 1) d_Mo_build_10 (by decide) ?_
  refine x_iadd d_Mo_build_11 ?_
  rw [nI_1]
  refine x_istore_n d_Mo_build_12 rfl rfl ?_
  refine x_iconst (v := 0) d_Mo_build_13 (by decide) ?_
  refine x_istore_n d_Mo_build_14 rfl rfl ?_
  have hWb := hW.bec hn h8 (k := 2) (v := nI k - 100) ⟨2, by omega, rfl⟩ (by decide) (fun z => by rcases z with z | z <;> exact absurd z (by decide)) (fun z => absurd z (by decide)) (fun _ => by rw [hzs, ek]) (fun z => by rcases z with z | z | z | z | z <;> exact absurd z (by decide))
  have hkd : kd (tUp T n (nBecome (tD T n) 2 (nI k - 100))) n = 2 := by unfold kd; rw [tD_up]; rfl
  have htm1 : tmn (tUp T n (nBecome (tD T n) 2 (nI k - 100))) n = zs := by rw [← hzs]; show ntm _ = _; rw [tD_up]; rfl
  have hRb := hR.hole.set (n := n) (x := nBecome (tD T n) 2 (nI k - 100)) (σ' := wI (wI σ 400 n 2) 405 n (σ.1 391 13)) hW.hole hn rfl rfl rfl rfl rfl ((FrI.rf.put (by simp)).put (by simp)) (fun j _ => by rw [wI_o (by decide), wI_o (by decide)]) (fun j hj => by
    refine ⟨by rw [wI_o (by decide), wI_j hj], by rw [wI_o (by decide), wI_o (by decide)], by rw [wI_j hj, wI_o (by decide)], by rw [wI_o (by decide), wI_o (by decide)], by rw [wI_o (by decide), wI_o (by decide)]⟩) (by rw [wI_o (by decide), wI_s]; rfl) (fun _ z => absurd rfl z) (by show (2 : Int32) ≠ 8; decide)
  exact Wq.fg (lp (prt + 1) 0 1 (tUp T n (nBecome (tD T n) 2 (nI k - 100))) _ (by omega) (by omega) (by rw [Nat.sub_zero]; exact hT2') ((FrI.rf.put (by simp)).put (by simp)) (fun j _ _ => by rw [wI_o (by decide), wI_o (by decide)]) (fun i hi => by rw [wI_o (by decide), wI_o (by decide)]; rw [← hzs] at hi ⊢; exact (hR.2.2.2 n hn).1.2.2.1.2 i hi) (by
    rw [Nat.sub_zero]
    have e := drop_cons hz0
    rw [List.drop_zero] at e
    have h0 := htz.1
    rw [e, ek] at h0
    have : full (nP (sgP pt)) (0 + nP (sgP pt) (nI k)) (zs.drop 1) = true := h0
    rw [Nat.zero_add, hprt] at this
    exact this) ⟨fun z => absurd (show tG T = true from z) (by rw [hW.2.1]; decide), fun _ => ⟨hRb, hWb.1⟩⟩ (fun _ => ⟨hWb.2, rfl, by rw [wI_s]; exact hR.2.1, by rw [wI_o (by decide), wI_o (by decide)]; exact (hR.2.2.2 n hn).1.2.2.2.2 h8, hkd, htm1, hn⟩) (fun _ => htz)) ⟨rfl, rfl, rfl, by rw [nI_0], trivial⟩
