/-! SuperDriverModel: split -/
def spS : List Nat := [391, 400, 401, 402, 403, 404, 405, 406, 407, 408, 409, 415, 416, 417, 418]
theorem RK.up {σ σ' : Mem} {T T' : TS} {k : Nat} (h : RK σ T k) (h8 : σ'.1 408 k = σ.1 408 k) (h9 : σ'.1 409 k = σ.1 409 k) (hd : (tD T' k).1 = (tD T k).1) : RK σ' T' k := by
  unfold RK at h ⊢
  rw [h8, h9, hd]
  exact h
set_option maxRecDepth 10000 in
set_option maxHeartbeats 1000000 in
theorem c_Mo_split {G : Ctx} {d : Nat} {Γ : List Sh} {σ : Mem} {Q : Option Value → List Sh → Mem → Prop} {X : CS} {T : TS} {n a f v : Nat} {zs : List Int32} (hM : MoS Γ σ) (hX : SW (kP X) (kC X) ∧ BdW (kP X) (kC X) (kB X) ∧ mBd σ X ∧ mFn σ X) (hR : Rt σ T none) (hW : WF (kP X) T none) (hn : n < tN T) (h8 : kd T n = 8) (hzs : tmn T n = zs) (hrow0 : σ.1 415 a = zs.getD a (-1)) (hrow1 : σ.1 415 (a + 1) = zs.getD (a + 1) (-1)) (hpre : ∀ i, i ≤ a → isC (zs.getD i (-1)) = true) (ha1 : a + 1 < zs.length) (hf8 : f < 8) (hek : zs.getD a (-1) = nI (200 + f)) (hp0 : kP X (200 + f) ≠ 0) (hcsk : kC X (200 + f) = true) (hv : v < 100) (hav : zs.getD (a + 1) (-1) = nI v) (hQ : ∀ τ, FrI spS σ τ → (∀ j, j ≠ 12 → j ≠ 13 → j ≠ 14 → j ≠ 30 → τ.1 391 j = σ.1 391 j) → (tG (tSplit (kP X) (kC X) (kB X) T n a) = true → gW τ) → (tG (tSplit (kP X) (kC X) (kB X) T n a) = false → Rt τ (tSplit (kP X) (kC X) (kB X) T n a) none) → Q none Γ τ) : Ct G M_Mo_split (d + 6) 0 0 [rf G 391, .int (nI n), .int (nI a)] Γ σ Q := by
  have hn48 : n < 48 := by have := hW.1.1; omega
  have hzl : zs.length ≤ 40 := by rw [← hzs]; exact (hW.1.2.2 n hn).1
  have hS := hX.1
  have hB := hX.2.1
  have hMB := hX.2.2.1
  have hFn := hX.2.2.2
  have hM0 := hM
  have h394 : σ.1 394 f = bI (kC X (200 + f)) := (hFn f hf8).2 hp0
  generalize hT2' : tSplit (kP X) (kC X) (kB X) T n a = T2 at hQ
  have hav : zs.getD (a + 1) (-1) = nI v := hav
  have hcs : sgC (kC X) (zs.getD a (-1)) = true := by rw [hek, sgC_n (by omega)]; exact hcsk
  have lp : ∀ (g c k : Nat) (T1 : TS) (τ : Mem) (x6 x7 x8 : Option Value), c ≤ 6 → 6 < c + g → FrI spS σ τ → (∀ j, j ≠ 12 → j ≠ 13 → j ≠ 14 → j ≠ 30 → τ.1 391 j = σ.1 391 j) → WF (kP X) T1 (some n) → Rt τ T1 (some n) → Ch T1 n (tN T) k → tN T + k = tN T1 → τ.1 405 n = nI (tN T) → τ.1 406 n = nI k → kd T1 n = 4 → dt T1 n = nI v → tmn T1 n = zs → (∀ i, i < k → EV4 T1 n (tN T) i) → (∀ i, i < k → RK τ T1 (tN T + i)) → tSpL (kP X) (kC X) (kB X) n a (nI v) (6 - c) c T1 = T2 → Wq G M_Mo_split (Em G (d + 6) 0 0 Q) 0 0 37 [some (rf G 391), some (.int (nI n)), some (.int (nI a)), some (.int (nI v)), some (.int (nI f)), some (.int (nI c)), x6, x7, x8] [] [] Γ τ := by
    intro g
    induction g with
    | zero => intro c k T1 τ x6 x7 x8 h1 h2; omega
    | succ g ih =>
    intro c k T1 τ x6 x7 x8 hcle hcg f0 h391 hW1 hR1 hCh hNk h405 h406 hk4 hdt htm1 hE hRK hT2
    have hM := hM0.fr f0
    have hn1 : n < tN T1 := by omega
    have eD1 : tD (aPat T1 c).1 = tD T1 := tNK_o.1
    have eN1 : tN (aPat T1 c).1 = tN T1 := tNK_o.2.1
    refine x_iload d_Mo_split_37 rfl ?_
    refine x_bipush (v := 6) d_Mo_split_39 (by decide) ?_
    refine x_icmp_ge (tgt := 299) d_Mo_split_41 (by decide) (fun c41 => ?_) (fun c41 => ?_)
    · have e6 : c = 6 := by have := (nI_leI (by decide) (by omega)).mp (show nI 6 ≤ nI c from c41); omega
      subst e6
      have hT2e : T1 = T2 := hT2
      subst hT2e
      exact x_return d_Mo_split_299 rfl (hQ τ f0 h391 (fun z => by rw [hW1.2.1] at z; cases z) (fun _ => hR1.close (fun _ b' c' hbc => by
        obtain ⟨u1, u2⟩ := Ch_u hbc hCh
        refine ⟨by rw [h406, u1], fun hc => by rw [h405, u2 hc], fun z => ?_, fun _ i hi => ?_⟩
        · rw [hk4] at z; exact absurd z (by decide)
        · rw [u2 (by omega)]; exact hRK i (by omega))))
    · have hc6 : c < 6 := Nat.not_le.mp fun z => c41 (show nI 6 ≤ nI c from nI_le z (by omega))
      first | refine x_aload_n d_Mo_split_44 rfl rfl ?_ | refine x_aloadN_n d_Mo_split_44 rfl rfl ?_ | refine x_aloadE_n d_Mo_split_44 rfl rfl ?_ | refine x_aloadO_n d_Mo_split_44 rfl rfl ?_
      refine x_getI d_Mo_split_45 f_Mo_177 rfl (by first | exact hM.1 | exact hM.s rfl | assumption) ?_
      rw [hR1.1]
      refine x_if_ne (tgt := 299) d_Mo_split_48 (by decide) (fun c48 => ?_) (fun c48 => ?_)
      · exact absurd rfl c48
      · first | refine x_aload_n d_Mo_split_51 rfl rfl ?_ | refine x_aloadN_n d_Mo_split_51 rfl rfl ?_ | refine x_aloadE_n d_Mo_split_51 rfl rfl ?_ | refine x_aloadO_n d_Mo_split_51 rfl rfl ?_
        refine x_getR d_Mo_split_52 f_Mo_23 rfl (by first | exact hM.1 | exact hM.s rfl | assumption) (hM.r rfl) ?_
        refine x_bipush (v := 7) d_Mo_split_55 (by decide) ?_
        refine x_iload d_Mo_split_57 rfl ?_
        refine x_imul d_Mo_split_59 ?_
        rw [mul7]
        refine x_iload d_Mo_split_60 rfl ?_
        refine x_iadd d_Mo_split_62 ?_
        rw [nI_add]
        refine x_iald d_Mo_split_63 (by first | exact hM.1 | exact hM.s rfl | assumption) (vp_in_nI (show 7 * f + c < 56 by omega) (by decide)) ?_
        rw [nI_clamp (by omega), f0.2 396 (by simp [spS]), (hMB f c hf8 (by omega)).1]
        refine x_if_ne (tgt := 70) d_Mo_split_64 (by decide) (fun c64 => ?_) (fun c64 => ?_)
        · have hmbne : mb X f c ≠ [] := fun z => c64 (by rw [z]; rfl)
          have hbs : (sB (kB X) (zs.getD a (-1)) (nI c)).isSome = true := by
            have hmb : mb X f c = kB X (6 * f + c) := by unfold mb; rw [if_neg hp0, if_pos hcsk, if_pos hc6]
            rw [hek, sB, (plc_n hf8).2 c hc6]
            show (if (kB X (6 * f + c)).length = 0 then none else some (6 * f + c)).isSome = true
            rw [if_neg (fun y => hmbne (by rw [hmb]; exact List.eq_nil_of_length_eq_zero y))]; rfl
          first | refine x_aload_n d_Mo_split_70 rfl rfl ?_ | refine x_aloadN_n d_Mo_split_70 rfl rfl ?_ | refine x_aloadE_n d_Mo_split_70 rfl rfl ?_ | refine x_aloadO_n d_Mo_split_70 rfl rfl ?_
          refine x_bipush (v := 100) d_Mo_split_71 (by decide) ?_
          refine x_iload d_Mo_split_73 rfl ?_
          refine x_iadd d_Mo_split_75 ?_
          rw [show (100 : Int32) + nI c = nI (100 + c) by rw [show (100 : Int32) = nI 100 from rfl, nI_add]]
          refine x_callS1 d_Mo_split_76 k_Mo_builtOf l_Mo_120 z_Mo_builtOf RoomE.m (Nat.le_of_ble_eq_true rfl) (c_Mo_builtOf ?_)
          rw [bO_c hc6, (qK_nat c).2]
          refine x_callV1 d_Mo_split_79 k_Mo_renew l_Mo_209 v_Mo_renew rfl s_Mo_renew (by first | exact hM.1 | exact hM.s rfl | assumption) RoomE.m (Nat.le_of_ble_eq_true rfl) (c_Mo_renew (n := qK c) (v := tV T1) (g := false) hM hR1.2.2.1 (by rw [hR1.1]; rfl) (by have := (qK_nat c).1; omega) (by have := hW1.1.2.1; omega) ?_)
          refine x_istore d_Mo_split_82 rfl ?_
          refine Wq.fg (sp_row (x8 := none) (zs := zs) (V := tV T1) (v := v) ((hM.w (a := 391) (j := 14) (v := nI (tV T1 + qK c))).w (a := 391) (j := 12) (v := bI (false || decide (100 < tV T1 + qK c)))) hn48 hv hc6 (by have := hW1.1.2.1; omega) (by rw [wI_o (by decide), wI_o (by decide), (hR1.2.2.2 n hn1).1.2.2.1.1, htm1]) (fun i hi => by rw [wI_o (by decide), wI_o (by decide)]; have := (hR1.2.2.2 n hn1).1.2.2.1.2; rw [htm1] at this; exact this i hi) hzl (by rw [← htm1]; exact (hW1.2.2 n hn1).1.1.2.mono (fun _ _ _ => trivial)) ?_) ⟨rfl, rfl, rfl, rfl, rfl, rfl, rfl, trivial⟩
          intro τ2 f23 h3x hrz hrow
          have f02 : FrI spS σ τ2 := ((f0.put (by simp [spS])).put (by simp [spS])).tr (f23.mono (by simp [spS]))
          have hM2 := hM0.fr f02
          have hM := hM2
          have h32 : ∀ j, j ≠ 12 → j ≠ 13 → j ≠ 14 → j ≠ 30 → τ2.1 391 j = σ.1 391 j := fun j j1 j2 j3 j4 => by rw [h3x j j4, wI_j j1, wI_j j3]; exact h391 j j1 j2 j3 j4
          have h12 : τ2.1 391 12 = bI (decide (100 < tV T1 + qK c)) := by rw [h3x 12 (by decide), wI_s, Bool.false_or]
          refine x_aload_n d_Mo_split_219 rfl rfl ?_
          refine x_getI d_Mo_split_220 f_Mo_177 rfl (by exact hM.1) ?_
          rw [h12]
          refine x_if_eq (tgt := 227) d_Mo_split_223 (by decide) (fun c223 => ?_) (fun c223 => ?_)
          · have hV100 : ¬ 100 < tV T1 + qK c := of_decide_eq_false (bI_0 c223)
            have hgp : tG (aPat T1 c).1 = false := by unfold aPat; rw [tNK_g hW1.2.1 hW1.1.2.1]; exact bI_0 c223
            obtain ⟨p1, p2, p3, p4⟩ := tNK_spec (k := qK c) (T := T1) (l := [100 + nI c]) hW1 hgp
            have hWp : WF (kP X) (aPat T1 c).1 (some n) := p1
            have eV1 : tV (aPat T1 c).1 = tV T1 + qK c := p2
            have hCh1 : Ch (aPat T1 c).1 n (tN T) k := by
              unfold Ch lkn at hCh ⊢
              rw [eD1, eN1]
              exact hCh
            have hR2 : Rt τ2 (aPat T1 c).1 (some n) := hR1.new eD1 eN1 (fun a x y => by rw [f23.2 a (by simp; omega), wI_o (by omega), wI_o (by omega)]) (by rw [h12, bI_0 c223]; rfl) (by rw [h3x 13 (by decide), wI_j (by decide), wI_j (by decide)]) (by rw [h3x 14 (by decide), wI_j (by decide), wI_s, eV1])
            have e100 : (100 : Int32) + nI c = nI (100 + c) := by rw [show (100 : Int32) = nI 100 from rfl, nI_add]
            have hrep : aRep T1 n c (nI v) = zs.flatMap (sbV (nI v) ([nI (100 + c)] ++ (List.range (qK c)).map (fun i => nI (tV T1 + i)))) := by
              unfold aRep aPat
              rw [p4, e100, hW1.t40 hn1, htm1]
            have hzs1 : tmq (nP (sgP (kP X))) (gA (kP X) (tV T1)) zs := by rw [← htm1]; exact (hW1.2.2 n hn1).1.1
            obtain ⟨r1, r2, r3, r4, r5⟩ := rep_spec hS hzs1 p3 hc6 hv hpre ha1 hav
            have hrl : (zs.flatMap (sbV (nI v) ([nI (100 + c)] ++ (List.range (qK c)).map (fun i => nI (tV T1 + i))))).length ≤ 120 := by
              refine Nat.le_trans (fm_le (k := 3) (fun s => (sbV_len ?_ ?_).2)) (by omega)
              · simp
              · have := (qK_nat c).1
                simp
                omega
            have hufs : uF (kC X) (kB X) (zs.flatMap (sbV (nI v) ([nI (100 + c)] ++ (List.range (qK c)).map (fun i => nI (tV T1 + i))))) a = true := by
              rw [← r2] at hek
              obtain ⟨_, hu2, _⟩ := uF_c (X := X) hf8 hek hp0 hcsk hc6 r3
              rw [hu2]
              exact decide_eq_true hmbne
            have htm120 : tmq (nP (sgP (kP X))) (gA (kP X) 100) (zs.flatMap (sbV (nI v) ([nI (100 + c)] ++ (List.range (qK c)).map (fun i => nI (tV T1 + i))))) := r1.mono (fun q _ z => by unfold gA at z ⊢; rcases z with z | z | z; exact Or.inl ⟨by omega, z.2⟩; exact Or.inr (Or.inl z); exact Or.inr (Or.inr z))
            have hcS : cSr τ2 X (zs.flatMap (sbV (nI v) ([nI (100 + c)] ++ (List.range (qK c)).map (fun i => nI (tV T1 + i))))) a f := by
              refine ⟨⟨hrz, hrow, by omega, r1.1, fun s hs => ?_⟩, by omega, hf8, by rw [r2]; exact hek, hp0, by rw [f02.2 394 (by simp [spS])]; exact h394, fun _ => ⟨100 + c, r4, r3, by omega⟩, fun f c hf hc => ⟨by rw [f02.2 396 (by simp [spS])]; exact (hMB f c hf hc).1, (hMB f c hf hc).2.fr f02 (by simp [spS])⟩, hS, hB⟩
              obtain ⟨q, hq4, rfl, hg⟩ := r1.2 s hs
              refine ⟨q, rfl, Or.inl (gA_k q hq4 hg).1, mPk_eq hS (fun f hf => by rw [f02.2 393 (by simp [spS])]; exact (hFn f hf).1) (gA_k q hq4 hg).1 (gA_k q hq4 hg).2, fun h200 => Or.inl ⟨h200, (gA_k q hq4 hg).1, ?_⟩⟩
              have hq : q - 200 < 8 := by have := (gA_k q hq4 hg).1; omega
              rw [f02.2 394 (by simp [spS])]
              have := (hFn (q - 200) hq).2
              rw [show 200 + (q - 200) = q by omega] at this
              exact this (by
                unfold gA at hg
                rcases hg with z | z | z
                · omega
                · omega
                · exact z.2.2)
            have hL : uL (kP X) (kC X) (kB X) (zs.flatMap (sbV (nI v) ([nI (100 + c)] ++ (List.range (qK c)).map (fun i => nI (tV T1 + i))))) a = uL (kP X) (kC X) (kB X) (aRep T1 n c (nI v)) a := by rw [hrep]
            have hLlen : (uL (kP X) (kC X) (kB X) (zs.flatMap (sbV (nI v) ([nI (100 + c)] ++ (List.range (qK c)).map (fun i => nI (tV T1 + i))))) a).length ≤ 20400 := by
              have hb := unf_len (P := sgP (kP X)) (zs := zs.flatMap (sbV (nI v) ([nI (100 + c)] ++ (List.range (qK c)).map (fun i => nI (tV T1 + i))))) (bs := sBd (kB X) ((zs.flatMap (sbV (nI v) ([nI (100 + c)] ++ (List.range (qK c)).map (fun i => nI (tV T1 + i))))).getD a (-1)) (caf (kC X) (zs.flatMap (sbV (nI v) ([nI (100 + c)] ++ (List.range (qK c)).map (fun i => nI (tV T1 + i))))) a)) (pv := nI) (a := a) (p0 := up0 (kC X) (zs.flatMap (sbV (nI v) ([nI (100 + c)] ++ (List.range (qK c)).map (fun i => nI (tV T1 + i))))) a) (cnt := ucN (kP X) (kC X) (zs.flatMap (sbV (nI v) ([nI (100 + c)] ++ (List.range (qK c)).map (fun i => nI (tV T1 + i))))) a) (by omega)
              have hbl : (sBd (kB X) ((zs.flatMap (sbV (nI v) ([nI (100 + c)] ++ (List.range (qK c)).map (fun i => nI (tV T1 + i))))).getD a (-1)) (caf (kC X) (zs.flatMap (sbV (nI v) ([nI (100 + c)] ++ (List.range (qK c)).map (fun i => nI (tV T1 + i))))) a)).length ≤ 24 := by
                have hek2 := hek
                rw [← r2] at hek2
                obtain ⟨_, _, hu3⟩ := uF_c (X := X) hf8 hek2 hp0 hcsk hc6 r3
                rw [← hu3 hmbne]
                exact mb_len hB hf8
              refine Nat.le_trans hb ?_
              have := Nat.mul_le_mul hrl hbl
              omega
            rw [← hrep] at hufs htm120 hcS
            rw [← hrep] at hLlen
            first | refine x_aload_n d_Mo_split_227 rfl rfl ?_ | refine x_aloadN_n d_Mo_split_227 rfl rfl ?_ | refine x_aloadE_n d_Mo_split_227 rfl rfl ?_ | refine x_aloadO_n d_Mo_split_227 rfl rfl ?_
            refine x_iload_n d_Mo_split_228 rfl rfl ?_
            refine x_callV1 d_Mo_split_229 k_Mo_unfold l_Mo_212 v_Mo_unfold rfl s_Mo_unfold (by first | exact hM.1 | exact hM.s rfl | assumption) RoomE.m (Nat.le_of_ble_eq_true rfl) (c_Mo_unfold_s (X := X) hM hcS (by rw [hrep]; omega) htm120 hufs (fun τ3 f3 s3 => ?_))
            have f03 : FrI spS σ τ3 := f02.tr (f3.mono (by simp [spS]))
            have hM3 := hM0.fr f03
            have h33 : ∀ j, τ3.1 391 j = τ2.1 391 j := fun j => by rw [f3.2 391 (by simp)]
            have hR3 : Rt (wI τ3 391 30 (nI (uL (kP X) (kC X) (kB X) (aRep T1 n c (nI v)) a).length)) (aPat T1 c).1 (some n) := hR2.cg (fun a h1 h2 => by rw [wI_o (by omega), f3.2 a (by simp; omega)]) (by rw [wI_j (by decide), h33]) (by rw [wI_j (by decide), h33]) (by rw [wI_j (by decide), h33])
            have hSt3 : St (kP X) (wI τ3 391 30 (nI (uL (kP X) (kC X) (kB X) (aRep T1 n c (nI v)) a).length)) (aPat T1 c).1 (some n) := ⟨fun z => absurd z (by rw [hgp]; decide), fun _ => ⟨hR3, hWp⟩⟩
            have hM := hM3
            first | refine x_aload_n d_Mo_split_232 rfl rfl ?_ | refine x_aloadN_n d_Mo_split_232 rfl rfl ?_ | refine x_aloadE_n d_Mo_split_232 rfl rfl ?_ | refine x_aloadO_n d_Mo_split_232 rfl rfl ?_
            refine x_iload_n d_Mo_split_233 rfl rfl ?_
            first | refine x_aload_n d_Mo_split_234 rfl rfl ?_ | refine x_aloadN_n d_Mo_split_234 rfl rfl ?_ | refine x_aloadE_n d_Mo_split_234 rfl rfl ?_ | refine x_aloadO_n d_Mo_split_234 rfl rfl ?_
            refine x_getR d_Mo_split_235 f_Mo_80 rfl (by first | exact hM.1 | exact hM.s rfl | assumption) (hM.r rfl) ?_
            refine x_iconst (v := 0) d_Mo_split_238 (by decide) ?_
            first | refine x_aload_n d_Mo_split_239 rfl rfl ?_ | refine x_aloadN_n d_Mo_split_239 rfl rfl ?_ | refine x_aloadE_n d_Mo_split_239 rfl rfl ?_ | refine x_aloadO_n d_Mo_split_239 rfl rfl ?_
            refine x_getI d_Mo_split_240 f_Mo_157 rfl (by first | exact hM.1 | exact hM.s rfl | assumption) ?_
            rw [wI_s]
            refine x_callV4 d_Mo_split_243 k_Mo_add l_Mo_205 v_Mo_add rfl s_Mo_add (by first | exact hM.1 | exact hM.s rfl | assumption) RoomE.m (Nat.le_of_ble_eq_true rfl) (c_Mo_addT (pt := (kP X)) (T := (aPat T1 c).1) (n := n) (q := 0) (l := (uL (kP X) (kC X) (kB X) (aRep T1 n c (nI v)) a)) (hM3.w (a := 391) (j := 30) (v := nI (uL (kP X) (kC X) (kB X) (aRep T1 n c (nI v)) a).length)) (hM3.s rfl) (by decide) (by omega) (by decide) (fun i hi => by rw [wI_o (by decide)]; exact s3 i hi) hSt3 (by rw [Nat.zero_add]) (fun _ => ⟨by rw [eN1]; omega, ⟨_, _, hCh1⟩, Or.inl (by decide)⟩) (fun τ4 g1 g2 f4 o4 t4 m4 => ?_))
            have f04 : FrI spS σ τ4 := (f03.put (by simp [spS])).tr (f4.mono (by simp [spS]))
            have hM4 := hM0.fr f04
            have hM := hM4
            have h34 : ∀ j, j ≠ 12 → j ≠ 13 → j ≠ 14 → j ≠ 30 → τ4.1 391 j = σ.1 391 j := fun j j1 j2 j3 j4 => by rw [o4 j j1 j2, wI_j j4, h33]; exact h32 j j1 j2 j3 j4
            rw [← tAdd_tk] at g1 g2
            have hgc : tG (tCls (kP X) (kC X) (kB X) T1 n a (nI v) c) = tG (tAdd (aPat T1 c).1 (some n) ((uL (kP X) (kC X) (kB X) (aRep T1 n c (nI v)) a).take 40) (decide (40 < (uL (kP X) (kC X) (kB X) (aRep T1 n c (nI v)) a).length))).1 := by unfold tCls; rw [tSet_G]
            first | refine x_aload_n d_Mo_split_246 rfl rfl ?_ | refine x_aloadN_n d_Mo_split_246 rfl rfl ?_ | refine x_aloadE_n d_Mo_split_246 rfl rfl ?_ | refine x_aloadO_n d_Mo_split_246 rfl rfl ?_
            refine x_getI d_Mo_split_247 f_Mo_177 rfl (by first | exact hM.1 | exact hM.s rfl | assumption) ?_
            have hg4 : τ4.1 391 12 = bI (tG (tAdd (aPat T1 c).1 (some n) ((uL (kP X) (kC X) (kB X) (aRep T1 n c (nI v)) a).take 40) (decide (40 < (uL (kP X) (kC X) (kB X) (aRep T1 n c (nI v)) a).length))).1) := by
              cases z : tG (tAdd (aPat T1 c).1 (some n) ((uL (kP X) (kC X) (kB X) (aRep T1 n c (nI v)) a).take 40) (decide (40 < (uL (kP X) (kC X) (kB X) (aRep T1 n c (nI v)) a).length))).1 with
              | true => exact (g1 z).1
              | false => exact (g2 z).1
            rw [hg4]
            refine x_if_eq (tgt := 254) d_Mo_split_250 (by decide) (fun c250 => ?_) (fun c250 => ?_)
            · have hga := bI_0 c250
              have hgcl : tG (tCls (kP X) (kC X) (kB X) T1 n a (nI v) c) = false := by rw [hgc]; exact hga
              obtain ⟨b1, b2, b3, b4, b5, b6, b7, b8, b9, b10, b11, b12, -⟩ := hW1.cls hS hB hn1 hCh hNk hk4 hdt htm1 hv hpre ha1 hav hcs hc6 hbs hE hgcl
              have hN4 : τ4.1 391 13 = nI (tN T1 + 1) := by
                rw [(g2 hga).2.1]
                have : tN (tCls (kP X) (kC X) (kB X) T1 n a (nI v) c) = tN (tAdd (aPat T1 c).1 (some n) ((uL (kP X) (kC X) (kB X) (aRep T1 n c (nI v)) a).take 40) (decide (40 < (uL (kP X) (kC X) (kB X) (aRep T1 n c (nI v)) a).length))).1 := by unfold tCls; exact tSet_o.1
                rw [← this, b3]
              have hnw : tN T1 < 48 := by have := b1.1.1; omega
              obtain ⟨y1, y2, y3, y4, y5⟩ := tAdd_ok hga
              have hCls : tCls (kP X) (kC X) (kB X) T1 n a (nI v) c = tUp (tAdd (aPat T1 c).1 (some n) ((uL (kP X) (kC X) (kB X) (aRep T1 n c (nI v)) a).take 40) (decide (40 < (uL (kP X) (kC X) (kB X) (aRep T1 n c (nI v)) a).length))).1 (tN T1) (xi (xi (tD (tAdd (aPat T1 c).1 (some n) ((uL (kP X) (kC X) (kB X) (aRep T1 n c (nI v)) a).take 40) (decide (40 < (uL (kP X) (kC X) (kB X) (aRep T1 n c (nI v)) a).length))).1 (tN T1)) 11 (nI c)) 12 (aFst T1 c)) := by
                unfold tCls tSet
                rw [show (tAdd (aPat T1 c).1 (some n) ((uL (kP X) (kC X) (kB X) (aRep T1 n c (nI v)) a).take 40) (decide (40 < (uL (kP X) (kC X) (kB X) (aRep T1 n c (nI v)) a).length))).2 = some (tN T1) by rw [y5, eN1]]
              have hch3 : lkn (tAdd (aPat T1 c).1 (some n) ((uL (kP X) (kC X) (kB X) (aRep T1 n c (nI v)) a).take 40) (decide (40 < (uL (kP X) (kC X) (kB X) (aRep T1 n c (nI v)) a).length))).1 (tN T1) 3 = some n := by
                have := (b2.2.2.2.2 k (Nat.lt_succ_self _)).1
                rw [hNk, hCls] at this
                unfold lkn at this ⊢
                rw [tD_up] at this
                exact this
              have hWadd : WF (kP X) (tAdd (aPat T1 c).1 (some n) ((uL (kP X) (kC X) (kB X) (aRep T1 n c (nI v)) a).take 40) (decide (40 < (uL (kP X) (kC X) (kB X) (aRep T1 n c (nI v)) a).length))).1 (some n) := by
                have hLm : tmq (nP (sgP (kP X))) (gA (kP X) (tV (aPat T1 c).1)) ((uL (kP X) (kC X) (kB X) (aRep T1 n c (nI v)) a).take 40) := by
                  have := (b1.2.2 (tN T1) (by omega)).1.1
                  rw [List.take_of_length_le b9]
                  have e10 : ntm (tD (tCls (kP X) (kC X) (kB X) T1 n a (nI v) c) (tN T1)) = (uL (kP X) (kC X) (kB X) (aRep T1 n c (nI v)) a) := b10
                  rw [e10, b4] at this
                  rw [eV1]
                  exact this
                exact (hWp.add (by rw [eN1]; exact hn1) hCh1 (by rw [eN1]; exact hNk) (by unfold kd at hk4 ⊢; rw [eD1, hk4]; decide) hLm hga).1
              have hRf : Rt (wI (wI (wI τ4 408 (tN T1) (nI (100 + c))) 409 (tN T1) (nI (tV T1))) 406 n (nI (k + 1))) (tCls (kP X) (kC X) (kB X) T1 n a (nI v) c) (some n) := by
                rw [hCls]
                refine Rt.many (Rt.mark (g2 hga) hWadd hch3 ((FrI.rf.put (by simp)).put (by simp)) (fun j hj => by rw [wI_o (by decide), wI_j hj]) (fun j hj => by rw [wI_j hj, wI_o (by decide)])) trivial ?_
                rw [← hCls]
                unfold kd at hk4 ⊢
                rw [(b5 n hn1).1, hk4]
                decide
              first | refine x_aload_n d_Mo_split_254 rfl rfl ?_ | refine x_aloadN_n d_Mo_split_254 rfl rfl ?_ | refine x_aloadE_n d_Mo_split_254 rfl rfl ?_ | refine x_aloadO_n d_Mo_split_254 rfl rfl ?_
              refine x_getR d_Mo_split_255 f_Mo_59 rfl (by first | exact hM.1 | exact hM.s rfl | assumption) (hM.r rfl) ?_
              first | refine x_aload_n d_Mo_split_258 rfl rfl ?_ | refine x_aloadN_n d_Mo_split_258 rfl rfl ?_ | refine x_aloadE_n d_Mo_split_258 rfl rfl ?_ | refine x_aloadO_n d_Mo_split_258 rfl rfl ?_
              refine x_getI d_Mo_split_259 f_Mo_180 rfl (by first | exact hM.1 | exact hM.s rfl | assumption) ?_
              rw [hN4]
              refine x_iconst (v := 1) d_Mo_split_262 (by decide) ?_
              refine x_isub d_Mo_split_263 ?_
              rw [nI_pred]
              refine x_bipush (v := 100) d_Mo_split_264 (by decide) ?_
              refine x_iload d_Mo_split_266 rfl ?_
              refine x_iadd d_Mo_split_268 ?_
              rw [show (100 : Int32) + nI c = nI (100 + c) by rw [show (100 : Int32) = nI 100 from rfl, nI_add]]
              refine x_iast d_Mo_split_269 (by first | exact hM.1 | exact hM.s rfl | assumption) (vp_in_nI (show tN T1 < 48 by omega) (by decide)) ?_
              rw [nI_clamp (by omega)]
              first | refine x_aload_n d_Mo_split_270 rfl rfl ?_ | refine x_aloadN_n d_Mo_split_270 rfl rfl ?_ | refine x_aloadE_n d_Mo_split_270 rfl rfl ?_ | refine x_aloadO_n d_Mo_split_270 rfl rfl ?_
              refine x_getR d_Mo_split_271 f_Mo_62 rfl (by first | exact hM.1 | exact hM.s rfl | assumption) (hM.r rfl) ?_
              first | refine x_aload_n d_Mo_split_274 rfl rfl ?_ | refine x_aloadN_n d_Mo_split_274 rfl rfl ?_ | refine x_aloadE_n d_Mo_split_274 rfl rfl ?_ | refine x_aloadO_n d_Mo_split_274 rfl rfl ?_
              refine x_getI d_Mo_split_275 f_Mo_180 rfl (by first | exact hM.1 | exact hM.s rfl | assumption) ?_
              rw [wI_o (by decide), hN4]
              refine x_iconst (v := 1) d_Mo_split_278 (by decide) ?_
              refine x_isub d_Mo_split_279 ?_
              rw [nI_pred]
              refine x_iload d_Mo_split_280 rfl ?_
              refine x_iast d_Mo_split_282 (by first | exact hM.1 | exact hM.s rfl | assumption) (vp_in_nI (show tN T1 < 48 by omega) (by decide)) ?_
              rw [nI_clamp (by omega)]
              first | refine x_aload_n d_Mo_split_283 rfl rfl ?_ | refine x_aloadN_n d_Mo_split_283 rfl rfl ?_ | refine x_aloadE_n d_Mo_split_283 rfl rfl ?_ | refine x_aloadO_n d_Mo_split_283 rfl rfl ?_
              refine x_getR d_Mo_split_284 f_Mo_53 rfl (by first | exact hM.1 | exact hM.s rfl | assumption) (hM.r rfl) ?_
              refine x_iload_n d_Mo_split_287 rfl rfl ?_
              refine x_dup2 d_Mo_split_288 rfl rfl ?_
              refine x_iald d_Mo_split_289 (by first | exact hM.1 | exact hM.s rfl | assumption) (vp_in_nI hn48 (by decide)) ?_
              rw [nI_clamp (by omega), wI_o (by decide), wI_o (by decide), m4 n (fun _ => by rw [eN1]; omega), wI_o (by decide), f3.2 406 (by simp), f23.2 406 (by simp), wI_o (by decide), wI_o (by decide), h406]
              refine x_iconst (v := 1) d_Mo_split_290 (by decide) ?_
              refine x_iadd d_Mo_split_291 ?_
              rw [nI_1]
              refine x_iast d_Mo_split_292 (by first | exact hM.1 | exact hM.s rfl | assumption) (vp_in_nI hn48 (by decide)) ?_
              rw [nI_clamp (by omega)]
              refine x_iinc (v := nI (c + 1)) d_Mo_split_293 rfl (nI_1 c) rfl ?_
              refine x_goto (tgt := 37) d_Mo_split_296 (by decide) ?_
              refine Wq.fg (ih (c + 1) (k + 1) (tCls (kP X) (kC X) (kB X) T1 n a (nI v) c) _ (some (.int (nI (tV T1)))) none none (by omega) (by omega) (((f04.put (by simp [spS])).put (by simp [spS])).put (by simp [spS])) (fun j j1 j2 j3 j4 => by rw [wI_o (by decide), wI_o (by decide), wI_o (by decide)]; exact h34 j j1 j2 j3 j4) b1 hRf b2 (by omega) (by rw [wI_o (by decide), wI_o (by decide), wI_o (by decide), f4.2 405 (by simp), wI_o (by decide), f3.2 405 (by simp), f23.2 405 (by simp), wI_o (by decide), wI_o (by decide)]; exact h405) wI_s (by unfold kd at hk4 ⊢; rw [(b5 n hn1).1]; exact hk4) (by unfold dt at hdt ⊢; rw [(b5 n hn1).1]; exact hdt) (by rw [(b5 n hn1).2]; exact htm1) b6 (fun i hi => ?_) (by
                rw [← hT2, show 6 - c = (6 - (c + 1)) + 1 by omega, tSpL, if_neg (by rw [hW1.2.1]; decide), hW1.t40 hn1, htm1, if_pos hbs])) ⟨rfl, rfl, rfl, rfl, rfl, rfl, rfl, trivial⟩
              by_cases e : i = k
              · subst e
                rw [hNk]
                intro cl hcl h11
                rw [b11] at h11
                have ecl : c = cl := nI_inj h11 (by omega) (by omega)
                subst ecl
                refine ⟨by rw [wI_o (by decide), wI_o (by decide), wI_s], fun hq => ?_⟩
                rw [wI_o (by decide), wI_s, b12 hq]
              · have hbi : tN T + i < tN T1 := by omega
                exact (hRK i (by omega)).up (by rw [wI_o (by decide), wI_o (by decide), wI_j (by omega), f4.2 408 (by simp), wI_o (by decide), f3.2 408 (by simp), f23.2 408 (by simp), wI_o (by decide), wI_o (by decide)]) (by rw [wI_o (by decide), wI_j (by omega), wI_o (by decide), f4.2 409 (by simp), wI_o (by decide), f3.2 409 (by simp), f23.2 409 (by simp), wI_o (by decide), wI_o (by decide)]) (b5 _ hbi).1
            · exact x_return d_Mo_split_253 rfl (by
                have hgt := bI_n0 c250
                rw [← hgc] at hgt
                have hT2' : tG T2 = true := by
                  rw [← hT2, show 6 - c = (6 - (c + 1)) + 1 by omega, tSpL, if_neg (by rw [hW1.2.1]; decide), hW1.t40 hn1, htm1, if_pos hbs]
                  exact tSpL_G hgt
                exact hQ τ4 f04 h34 (fun _ => g1 (bI_n0 c250)) (fun z => by rw [hT2'] at z; cases z))
          · have hgp : tG (aPat T1 c).1 = true := by unfold aPat; rw [tNK_g hW1.2.1 hW1.1.2.1]; exact bI_n0 c223
            have hT2' : tG T2 = true := by
              rw [← hT2, show 6 - c = (6 - (c + 1)) + 1 by omega, tSpL, if_neg (by rw [hW1.2.1]; decide), hW1.t40 hn1, htm1, if_pos hbs]
              refine tSpL_G ?_
              unfold tCls
              rw [tSet_G]
              exact tAdd_G hgp
            exact x_return d_Mo_split_226 rfl (hQ τ2 f02 h32 (fun _ => ⟨by rw [h12, bI_n0 c223]; rfl, (hR1.gw hW1).cg (by rw [f23.2 400 (by simp), wI_o (by decide), wI_o (by decide)]) (by rw [f23.2 402 (by simp), wI_o (by decide), wI_o (by decide)]) (by rw [f23.2 403 (by simp), wI_o (by decide), wI_o (by decide)]) (by rw [h3x 13 (by decide), wI_j (by decide), wI_j (by decide)])⟩) (fun z => by rw [hT2'] at z; cases z))
        · refine x_goto (tgt := 293) d_Mo_split_67 (by decide) ?_
          refine x_iinc (v := nI (c + 1)) d_Mo_split_293 rfl (nI_1 c) rfl ?_
          refine x_goto (tgt := 37) d_Mo_split_296 (by decide) ?_
          have hmbe : mb X f c = [] := List.eq_nil_of_length_eq_zero (nI_inj (show nI (mb X f c).length = nI 0 by rw [c64, nI_0]) (by have := mb_len (d := c) hB hf8; omega) (by decide))
          have hbs : ¬ (sB (kB X) (zs.getD a (-1)) (nI c)).isSome = true := by
            have hmb : mb X f c = kB X (6 * f + c) := by unfold mb; rw [if_neg hp0, if_pos hcsk, if_pos hc6]
            rw [hek, sB, (plc_n hf8).2 c hc6]
            show ¬ (if (kB X (6 * f + c)).length = 0 then none else some (6 * f + c)).isSome = true
            rw [if_pos (by rw [← hmb, hmbe]; rfl)]
            decide
          exact Wq.fg (ih (c + 1) k T1 τ x6 x7 x8 (by omega) (by omega) f0 h391 hW1 hR1 hCh hNk h405 h406 hk4 hdt htm1 hE hRK (by
            rw [← hT2, show 6 - c = (6 - (c + 1)) + 1 by omega, tSpL, if_neg (by rw [hW1.2.1]; decide), hW1.t40 hn1, htm1, if_neg hbs])) ⟨rfl, rfl, rfl, rfl, rfl, rfl, lsub_rf⟩
  refine Ct.of (lv := [some (rf G 391), some (.int (nI n)), some (.int (nI a)), none, none, none, none, none, none]) (ll := []) rfl rfl (EN.cat (n := 6) ⟨rfl, rfl, rfl, trivial⟩ (Nat.le_of_ble_eq_true rfl)) ?_
  first | refine x_aload_n d_Mo_split_0 rfl rfl ?_ | refine x_aloadN_n d_Mo_split_0 rfl rfl ?_ | refine x_aloadE_n d_Mo_split_0 rfl rfl ?_ | refine x_aloadO_n d_Mo_split_0 rfl rfl ?_
  refine x_getR d_Mo_split_1 f_Mo_80 rfl (by first | exact hM.1 | exact hM.s rfl | assumption) (hM.r rfl) ?_
  refine x_iload_n d_Mo_split_4 rfl rfl ?_
  refine x_iconst (v := 1) d_Mo_split_5 (by decide) ?_
  refine x_iadd d_Mo_split_6 ?_
  rw [nI_1]
  refine x_iald d_Mo_split_7 (by first | exact hM.1 | exact hM.s rfl | assumption) (vp_in_nI (show a + 1 < 20400 by omega) (by decide)) ?_
  rw [nI_clamp (by omega), hrow1, hav]
  refine x_istore_n d_Mo_split_8 rfl rfl ?_
  first | refine x_aload_n d_Mo_split_9 rfl rfl ?_ | refine x_aloadN_n d_Mo_split_9 rfl rfl ?_ | refine x_aloadE_n d_Mo_split_9 rfl rfl ?_ | refine x_aloadO_n d_Mo_split_9 rfl rfl ?_
  refine x_getR d_Mo_split_10 f_Mo_80 rfl (by first | exact hM.1 | exact hM.s rfl | assumption) (hM.r rfl) ?_
  refine x_iload_n d_Mo_split_13 rfl rfl ?_
  refine x_iald d_Mo_split_14 (by first | exact hM.1 | exact hM.s rfl | assumption) (vp_in_nI (show a < 20400 by omega) (by decide)) ?_
  rw [nI_clamp (by omega), hrow0, hek]
  refine x_sipush (v := 200) d_Mo_split_15 (by decide) ?_
  refine x_isub d_Mo_split_18 ?_
  rw [nI_sub200 (by omega), Nat.add_sub_cancel_left]
  refine x_istore d_Mo_split_19 rfl ?_
  first | refine x_aload_n d_Mo_split_21 rfl rfl ?_ | refine x_aloadN_n d_Mo_split_21 rfl rfl ?_ | refine x_aloadE_n d_Mo_split_21 rfl rfl ?_ | refine x_aloadO_n d_Mo_split_21 rfl rfl ?_
  refine x_iload_n d_Mo_split_22 rfl rfl ?_
  refine x_iconst (v := 4) d_Mo_split_23 (by decide) ?_
  refine x_callV2 d_Mo_split_24 k_Mo_becomes l_Mo_201 v_Mo_becomes rfl s_Mo_becomes (by first | exact hM.1 | exact hM.s rfl | assumption) RoomE.m (Nat.le_of_ble_eq_true rfl) (c_Mo_becomes hM hn48 ?_)
  first | refine x_aload_n d_Mo_split_27 rfl rfl ?_ | refine x_aloadN_n d_Mo_split_27 rfl rfl ?_ | refine x_aloadE_n d_Mo_split_27 rfl rfl ?_ | refine x_aloadO_n d_Mo_split_27 rfl rfl ?_
  refine x_getR d_Mo_split_28 f_Mo_47 rfl (by first | exact hM.1 | exact hM.s rfl | assumption) (hM.r rfl) ?_
  refine x_iload_n d_Mo_split_31 rfl rfl ?_
  refine x_iload_n d_Mo_split_32 rfl rfl ?_
  refine x_iast d_Mo_split_33 (by first | exact hM.1 | exact hM.s rfl | assumption) (vp_in_nI hn48 (by decide)) ?_
  rw [nI_clamp (by omega)]
  refine x_iconst (v := 0) d_Mo_split_34 (by decide) ?_
  refine x_istore d_Mo_split_35 rfl ?_
  have hmem : nI v ∈ tmn T n := by rw [hzs, ← hav]; exact getD_mem ha1
  have hWb := hW.bec hn h8 (k := 4) (v := nI v) ⟨4, by omega, rfl⟩ (by decide) (fun _ => by rw [hzs]; exact hpre 0 (Nat.zero_le _)) (fun _ => ⟨v, hv, rfl, hmem⟩) (fun z => absurd z (by decide)) (fun z => by rcases z with z | z | z | z | z <;> exact absurd z (by decide))
  have hkd : kd (tUp T n (nBecome (tD T n) 4 (nI v))) n = 4 := by unfold kd; rw [tD_up]; rfl
  have hdt : dt (tUp T n (nBecome (tD T n) 4 (nI v))) n = nI v := by unfold dt; rw [tD_up]; rfl
  have htm1 : tmn (tUp T n (nBecome (tD T n) 4 (nI v))) n = zs := by rw [← hzs]; show ntm _ = _; rw [tD_up]; rfl
  have hRb := hR.hole.set (n := n) (x := nBecome (tD T n) 4 (nI v)) (σ' := wI (wI (wI σ 400 n 4) 405 n (σ.1 391 13)) 404 n (nI v)) hW.hole hn rfl rfl rfl rfl rfl (((FrI.rf.put (by simp)).put (by simp)).put (by simp)) (fun j _ => by rw [wI_o (by decide), wI_o (by decide), wI_o (by decide)]) (fun j hj => by
    refine ⟨by rw [wI_o (by decide), wI_o (by decide), wI_j hj], by rw [wI_j hj, wI_o (by decide), wI_o (by decide)], by rw [wI_o (by decide), wI_j hj, wI_o (by decide)], by rw [wI_o (by decide), wI_o (by decide), wI_o (by decide)], by rw [wI_o (by decide), wI_o (by decide), wI_o (by decide)]⟩) (by rw [wI_o (by decide), wI_o (by decide), wI_s]; rfl) (fun _ _ => by rw [wI_s]; rfl) (by show (4 : Int32) ≠ 8; decide)
  exact Wq.fg (lp 7 0 0 (tUp T n (nBecome (tD T n) 4 (nI v))) _ none none none (by omega) (by omega) (((FrI.rf.put (by simp [spS])).put (by simp [spS])).put (by simp [spS])) (fun j _ _ _ _ => by rw [wI_o (by decide), wI_o (by decide), wI_o (by decide)]) hWb.1 hRb hWb.2 rfl (by rw [wI_o (by decide), wI_s]; exact hR.2.1) (by rw [wI_o (by decide), wI_o (by decide), wI_o (by decide), (hR.2.2.2 n hn).1.2.2.2.2 h8, nI_0]) hkd hdt htm1 (fun i hi => absurd hi (Nat.not_lt_zero _)) (fun i hi => absurd hi (Nat.not_lt_zero _)) (by
    rw [← hT2', tSplit, hW.t40 hn, hzs, hav])) ⟨rfl, rfl, rfl, rfl, rfl, by rw [nI_0], trivial⟩
