/-! SuperDriverModel: generalise -/
theorem tApart_sh {P : Int32 → Int32} {zs : List Int32} : ∀ {k pl : Nat} {S : GS} {T : TS}, gC S + k ≤ 40 → tV T ≤ 100 →
    gC (tApart P zs k pl S T).1 = gC S + k ∧ (∀ i, i < gC S → gD (tApart P zs k pl S T).1 i = gD S i) ∧ (∀ i, i < k → gD (tApart P zs k pl S T).1 (gC S + i) = ends P zs pl i) ∧ (tG T = false → tV T + k ≤ 100 → tG (tApart P zs k pl S T).2 = false ∧ tV (tApart P zs k pl S T).2 = tV T + k ∧ gL (tApart P zs k pl S T).1 = gL S ++ (List.range k).map (fun i => nI (tV T + i))) ∧ (100 < tV T + k → tG (tApart P zs k pl S T).2 = true)
  | 0, pl, S, T, h, hv => ⟨rfl, fun _ _ => rfl, fun i hi => absurd hi (Nat.not_lt_zero _), fun hg _ => ⟨hg, rfl, by show gL S = _; simp⟩, fun z => by omega⟩
  | k + 1, pl, S, T, h, hv => by
    obtain ⟨n1, n2, n3, n4, n5⟩ := gN1_spec (S := S) (v := (tNew T).2) (u := pl) (l := pl) (by omega)
    have hv1 : tV (tNew T).1 ≤ 100 := by
      unfold tNew
      by_cases z : tV T < 100
      · rw [if_pos z]; exact z
      · rw [if_neg z]; exact hv
    have gc : gC (gAdd (gN1 S (tNew T).2 pl pl) (tNew T).2) = gC S + 1 := n2
    obtain ⟨a1, a2, a3, a4, a5⟩ := tApart_sh (P := P) (zs := zs) (k := k) (pl := behind P zs pl) (S := gAdd (gN1 S (tNew T).2 pl pl) (tNew T).2) (T := (tNew T).1) (by rw [gc]; omega) hv1
    rw [gc] at a1 a2 a3
    have gd : ∀ i, gD (gAdd (gN1 S (tNew T).2 pl pl) (tNew T).2) i = if i = gC S then pl else gD S i := n5
    show gC (tApart P zs k (behind P zs pl) (gAdd (gN1 S (tNew T).2 pl pl) (tNew T).2) (tNew T).1).1 = _ ∧ _
    refine ⟨by rw [a1]; omega, fun i hi => ?_, fun i hi => ?_, fun hg hl => ?_, fun hl => ?_⟩
    · show gD (tApart P zs k (behind P zs pl) (gAdd (gN1 S (tNew T).2 pl pl) (tNew T).2) (tNew T).1).1 i = _
      rw [a2 i (by omega), gd, if_neg (by omega)]
    · show gD (tApart P zs k (behind P zs pl) (gAdd (gN1 S (tNew T).2 pl pl) (tNew T).2) (tNew T).1).1 _ = _
      cases i with
      | zero => rw [Nat.add_zero, a2 _ (by omega), gd, if_pos rfl]; rfl
      | succ i =>
        rw [show gC S + (i + 1) = gC S + 1 + i by omega, a3 i (by omega)]
        have : ∀ j, ends P zs pl (j + 1) = ends P zs (behind P zs pl) j := fun j => by
          induction j with
          | zero => rfl
          | succ j ih => show behind P zs (ends P zs pl (j + 1)) = behind P zs (ends P zs (behind P zs pl) j); rw [ih]
        rw [this]
    · have z : tV T < 100 := by omega
      have eN : (tNew T).1 = (T.1, T.2.1 + 1, T.2.2.1, T.2.2.2) := by unfold tNew; rw [if_pos z]
      have eV : (tNew T).2 = nI (tV T) := by unfold tNew; rw [if_pos z]
      obtain ⟨b1, b2, b3⟩ := a4 (by rw [eN]; exact hg) (by rw [eN]; show tV T + 1 + k ≤ 100; omega)
      refine ⟨b1, ?_, ?_⟩
      · show tV (tApart P zs k (behind P zs pl) (gAdd (gN1 S (tNew T).2 pl pl) (tNew T).2) (tNew T).1).2 = _
        rw [b2, eN]; show tV T + 1 + k = _; omega
      · show gL (tApart P zs k (behind P zs pl) (gAdd (gN1 S (tNew T).2 pl pl) (tNew T).2) (tNew T).1).1 = _
        rw [b3]
        show gL (gN1 S (tNew T).2 pl pl) ++ [(tNew T).2] ++ _ = _
        rw [n1, eV, eN, List.append_assoc]
        congr 1
        rw [List.range_succ_eq_map, List.map_cons, List.map_map]
        show _ :: _ = _ :: _
        congr 1
        apply List.map_congr_left
        intro i _
        show nI (tV T + 1 + i) = nI (tV T + (i + 1))
        congr 1
        omega
    · show tG (tApart P zs k (behind P zs pl) (gAdd (gN1 S (tNew T).2 pl pl) (tNew T).2) (tNew T).1).2 = true
      by_cases z : tV T < 100
      · have eN : tV (tNew T).1 = tV T + 1 := by unfold tNew; rw [if_pos z]; rfl
        exact a5 (by rw [eN]; omega)
      · exact tApart_G (by unfold tNew; rw [if_neg z]; rfl)
def gnS : List Nat := [391, 400, 401, 402, 403, 404, 405, 406, 407, 419, 420, 422, 423, 424]
def gnF (j : Nat) : Prop := j ≠ 12 ∧ j ≠ 13 ∧ j ≠ 14 ∧ j ≠ 38 ∧ j ≠ 40
theorem tCom_c {P : Int32 → Int32} {zu zl : List Int32} {f i j : Nat} {S : GS} {T : TS} : tCom P zu zl (f + 1) i j S T = if i < zu.length then (if zu.getD i (-1) = zl.getD j (-1) then tCom P zu zl f (i + 1) (j + 1) (gAdd S (zu.getD i (-1))) T else tCom P zu zl f (behind P zu i) (behind P zl j) (dfS P zu zl i j S T).1 (dfS P zu zl i j S T).2) else (S, T) := by
  rw [tCom]
  by_cases h : i < zu.length
  · rw [if_pos h, if_pos h]
    by_cases e : zu.getD i (-1) = zl.getD j (-1)
    · rw [if_pos e, if_pos e]
    · rw [if_neg e, if_neg e]
      unfold dfS
      cases met S zu zl i (behind P zu i) j (behind P zl j) (gC S) 0 <;> rfl
  · rw [if_neg h, if_neg h]
theorem com_len {P : Int32 → Int32} {zu zl : List Int32} : ∀ {f i j : Nat} {S : GS} {T : TS} {B : Nat}, f ≤ B → True → (gL S).length + f ≤ B → (gL (tCom P zu zl f i j S T).1).length ≤ B
  | 0, i, j, S, T, B, _, _, h => by show (gL S).length ≤ B; omega
  | f + 1, i, j, S, T, B, hf, _, h => by
    unfold tCom
    split
    · split
      · exact com_len (by omega) trivial (by show (gL S ++ [_]).length + f ≤ B; rw [List.length_append]; simp; omega)
      · split
        · exact com_len (by omega) trivial (by show (gL S ++ [_]).length + f ≤ B; rw [List.length_append]; simp; omega)
        · refine com_len (by omega) trivial ?_
          show (gL (gN1 S _ i j) ++ [_]).length + f ≤ B
          have : gL (gN1 S (tNew T).2 i j) = gL S := by unfold gN1 gPush; split <;> split <;> rfl
          rw [this, List.length_append]; simp; omega
    · show (gL S).length ≤ B; omega
theorem apart_len {P : Int32 → Int32} {zs : List Int32} : ∀ {k pl : Nat} {S : GS} {T : TS}, gC S + k ≤ 40 → (gL (tApart P zs k pl S T).1).length = (gL S).length + k
  | 0, _, _, _, _ => rfl
  | k + 1, pl, S, T, h => by
    obtain ⟨n1, n2, -⟩ := gN1_spec (S := S) (v := (tNew T).2) (u := pl) (l := pl) (by omega)
    show (gL (tApart P zs k (behind P zs pl) (gAdd (gN1 S (tNew T).2 pl pl) (tNew T).2) (tNew T).1).1).length = _
    rw [apart_len (k := k) (by show gC (gN1 S _ pl pl) + k ≤ 40; rw [n2]; omega)]
    show (gL (gN1 S _ pl pl) ++ [_]).length + k = _
    rw [n1, List.length_append]; simp; omega
set_option maxRecDepth 10000 in
set_option maxHeartbeats 1000000 in
theorem c_Mo_generalise_c {G : Ctx} {d : Nat} {Γ : List Sh} {σ : Mem} {Q : Option Value → List Sh → Mem → Prop} {pt : Nat → Int32} {cs : Nat → Bool} {T : TS} {a b : Nat} {S : GS} (hM : MoS Γ σ) (hS : SW pt cs) (hp : ∀ f, f < 8 → σ.1 393 f = pt (200 + f)) (hR : Rt σ T none) (hW : WF pt T none) (ha : a < tN T) (hb : b < tN T) (h8 : kd T b = 8) (h34 : kd T a = 3 ∨ kd T a = 4) (hbel : isBel T b a = true) (hQ : ∀ τ, FrI gnS σ τ → (∀ j, gnF j → τ.1 391 j = σ.1 391 j) → (tG (tGen (sgP pt) T b a S).2 = true → gW τ) → (tG (tGen (sgP pt) T b a S).2 = false → Rt τ (tGen (sgP pt) T b a S).2 none) → Q none Γ τ) (h0 : (tmn T a).getD 0 (-1) = (tmn T b).getD 0 (-1)) : Ct G M_Mo_generalise (d + 4) 0 0 [rf G 391, .int (nI b), .int (nI a)] Γ σ Q := by
  have hM0 := hM
  have hP := hS.ok.1
  have hN48 := hW.1.1
  have htw0 := hR.twT hW hS hp ha hb
  have hla : (tmn T a).length ≤ 40 := (hW.1.2.2 a ha).1
  have hlb : (tmn T b).length ≤ 40 := (hW.1.2.2 b hb).1
  have hV100 := hW.1.2.1
  have hta := (hW.2.2 a ha).1.1
  have htb := (hW.2.2 b hb).1.1
  have ea : (ntm (tD T a)).take 40 = tmn T a := hW.t40 ha
  have eb : (ntm (tD T b)).take 40 = tmn T b := hW.t40 hb
  obtain ⟨zu, hzu⟩ : ∃ z, z = tmn T a := ⟨_, rfl⟩
  obtain ⟨zl, hzl⟩ : ∃ z, z = tmn T b := ⟨_, rfl⟩
  obtain ⟨V0, hV0⟩ : ∃ v, v = tV T := ⟨_, rfl⟩
  have htw := htw0
  rw [← hzu, ← hzl] at htw
  rw [← hzu] at hla
  rw [← hzl] at hlb
  have hz0 : 0 < zl.length := full_ne htw.2.2.2.2.2.2.1
  have hz1 : 0 < zu.length := full_ne htw.2.2.2.2.2.1
  have hR14 : σ.1 391 14 = nI V0 := by rw [hV0]; exact hR.2.2.1
  obtain ⟨T2, hT2d⟩ : ∃ t, t = (tGen (sgP pt) T b a S).2 := ⟨_, rfl⟩
  rw [← hT2d] at hQ
  obtain ⟨s1, e1, ok1, _, _⟩ := htw.2.2.2.2.2.2.2.1.getD hz1
  obtain ⟨s2, e2, ok2, _, _⟩ := htw.2.2.2.2.2.2.2.2.getD hz0
  have hs1 := ok1.le
  have hs2 := ok2.le
  rw [← hzu, ← hzl] at h0
  obtain ⟨RR, hRRd⟩ : ∃ r, r = tCom (sgP pt) zu zl 40 0 0 (gZ S) T := ⟨_, rfl⟩
  have hDD : tD RR.2 = tD T ∧ tN RR.2 = tN T := by rw [hRRd]; exact tCom_o
  have hzal : al (gA pt V0) zu := by rw [hzu, hV0]; exact hta.2
  have hspec : tG RR.2 = false → WF pt RR.2 none ∧ CI (nP (sgP pt)) V0 zu zl 0 RR.1 RR.2 ∧ gC RR.1 ≤ 40 ∧ (gL RR.1).length ≤ 40 := fun z => by
    rw [hRRd] at z ⊢
    exact tCom_spec (h := none) (V0 := V0) hS hla hlb (f := 40) (i := 0) (j := 0) (m := 1) (S := gZ S) (T := T) (by omega) (by omega) (by rw [hzu]; exact hta.1) (by rw [hzl]; exact htb.1) (Nat.le_refl _) (Nat.le_refl _) (CI_0 hV0.symm) hW z
  have hlen40 : (gL RR.1).length ≤ 40 := by rw [hRRd]; exact com_len (Nat.le_refl _) trivial (Nat.le_refl _)
  have hT2e : T2 = (if renI (gL RR.1) zu = true then tLet (sgP pt) RR.2 b RR.1 (gD RR.1) else tLet (sgP pt) (tRm RR.2 a) a RR.1 (gU RR.1)) := by
    rw [hT2d, tGen, ea, eb, ← hzu, ← hzl, if_pos h0, ← hRRd, List.take_of_length_le hlen40]
    split <;> rfl
  have tl : ∀ (S1 : GS) (T1 : TS) (τ : Mem) (x4 x5 x7 : Option Value), FrI [391, 422, 423, 424] σ τ → (∀ j, j ≠ 12 → j ≠ 14 → j ≠ 38 → j ≠ 40 → τ.1 391 j = σ.1 391 j) → GI τ a b V0 zu zl true S1 T1 → (tD T1 = tD T ∧ tN T1 = tN T) → (tG T1 = false → WF pt T1 none ∧ CI (nP (sgP pt)) V0 zu zl 0 S1 T1 ∧ gC S1 ≤ 40 ∧ (gL S1).length ≤ 40) → (gC S1 ≤ 40) → T2 = (if renI (gL S1) zu = true then tLet (sgP pt) T1 b S1 (gD S1) else tLet (sgP pt) (tRm T1 a) a S1 (gU S1)) → (tG T1 = true → tG ((if renI (gL S1) zu = true then tLet (sgP pt) T1 b S1 (gD S1) else tLet (sgP pt) (tRm T1 a) a S1 (gU S1))) = true) → Wq G M_Mo_generalise (Em G (d + 4) 0 0 Q) 0 0 273 [some (rf G 391), some (.int (nI b)), some (.int (nI a)), some (.int (nI V0)), x4, x5, some (.int (bI false)), x7] [] [] Γ τ := by
    intro S1 T1 τ x4 x5 x7 f0 h0j hG hD1 hsp hgc40 hT20 hgT
    have hM := hM0.fr f0
    have hN48 := hW.1.1
    first | refine x_aload_n d_Mo_generalise_273 rfl rfl ?_ | refine x_aloadN_n d_Mo_generalise_273 rfl rfl ?_ | refine x_aloadE_n d_Mo_generalise_273 rfl rfl ?_ | refine x_aloadO_n d_Mo_generalise_273 rfl rfl ?_
    refine x_getI d_Mo_generalise_274 f_Mo_177 rfl (by first | exact hM.1 | exact hM.s rfl | assumption) ?_
    rw [hG.2.2.2.2.1]
    refine x_if_eq (tgt := 281) d_Mo_generalise_277 (by decide) (fun c277 => ?_) (fun c277 => ?_)
    · have hgf : tG T1 = false := bI_0 c277
      obtain ⟨hW1, hCI, hc1, hl1⟩ := hsp hgf
      have hzu1 : al (gA pt V0) zu := hzal
      have hR1 : Rt τ T1 none := hR.new hD1.1 hD1.2 (fun x y z => f0.2 x (by simp; omega)) (by rw [hG.2.2.2.2.1, hgf]; rfl) (h0j 13 (by decide) (by decide) (by decide) (by decide)) (by rw [hG.2.2.2.1, (hG.2.2.2.2.2.2.1 hgf).1])
      have hglal : al (fun _ => True) (gL S1) := fun s hs => by
        rcases hCI.2.2.2.1 s hs with z | ⟨k, hk, e⟩
        · obtain ⟨k, h1, h2, _⟩ := hzal s z.1
          exact ⟨k, h1, h2, trivial⟩
        · exact ⟨V0 + k, by omega, e, trivial⟩
      have j321 : ∀ (lo : Bool) (x : Int32) (τ2 : Mem), x = bI lo → FrI gnS σ τ2 → (∀ j, gnF j → τ2.1 391 j = σ.1 391 j) → GI τ2 a b V0 zu zl (!false) S1 T1 → Rt τ2 T1 none → T2 = (if lo = true then tLet (sgP pt) T1 b S1 (gD S1) else tLet (sgP pt) (tRm T1 a) a S1 (gU S1)) → Wq G M_Mo_generalise (Em G (d + 4) 0 0 Q) 0 0 321 [some (rf G 391), some (.int (nI b)), some (.int (nI a)), some (.int (nI V0)), x4, x5, some (.int (bI false)), x7] [] [.int x] Γ τ2 := by
        intro lo x τ2 hx f02 h02 hG2 hR2 hT2
        subst hx
        obtain ⟨g1, g2, g3, g4, g5, g6, g7, g8⟩ := id hG2
        have hM := hM0.fr f02
        have eN1 : tN T1 = tN T := hD1.2
        have ek1 : ∀ k, kd T1 k = kd T k := fun k => by unfold kd; rw [hD1.1]
        have et1 : ∀ k, tmn T1 k = tmn T k := fun k => by unfold tmn; rw [hD1.1]
        have hN48 := hW.1.1
        have hw45 := (hW.2.2 b hb).1.2.2.2.2.1 h8
        have hCb : Ch T1 b (tN T1) 0 := by
          refine ⟨by omega, by omega, ?_, ?_, fun i hi => absurd hi (Nat.not_lt_zero _)⟩
          · unfold lkn; rw [hD1.1]; exact hw45.1
          · unfold lkn; rw [hD1.1]; exact hw45.2
        cases lo with
        | true =>
          rw [if_pos rfl] at hT2
          refine x_istore d_Mo_generalise_321 rfl ?_
          refine x_iload d_Mo_generalise_323 rfl ?_
          refine x_if_ne (tgt := 333) d_Mo_generalise_325 (by decide) (fun c325 => ?_) (fun c325 => ?_)
          · first | refine x_aload_n d_Mo_generalise_333 rfl rfl ?_ | refine x_aloadN_n d_Mo_generalise_333 rfl rfl ?_ | refine x_aloadE_n d_Mo_generalise_333 rfl rfl ?_ | refine x_aloadO_n d_Mo_generalise_333 rfl rfl ?_
            refine x_iload d_Mo_generalise_334 rfl ?_
            refine x_if_eq (tgt := 343) d_Mo_generalise_336 (by decide) (fun c336 => ?_) (fun c336 => ?_)
            · exact absurd c336 (by decide)
            · refine x_iload_n d_Mo_generalise_339 rfl rfl ?_
              refine x_goto (tgt := 344) d_Mo_generalise_340 (by decide) ?_
              refine x_bipush (v := 7) d_Mo_generalise_344 (by decide) ?_
              refine x_callV2 d_Mo_generalise_346 k_Mo_becomes l_Mo_201 v_Mo_becomes rfl s_Mo_becomes (by first | exact hM.1 | exact hM.s rfl | assumption) RoomE.m (Nat.le_of_ble_eq_true rfl) (c_Mo_becomes hM (show b < 48 by omega) ?_)
              first | refine x_aload_n d_Mo_generalise_349 rfl rfl ?_ | refine x_aloadN_n d_Mo_generalise_349 rfl rfl ?_ | refine x_aloadE_n d_Mo_generalise_349 rfl rfl ?_ | refine x_aloadO_n d_Mo_generalise_349 rfl rfl ?_
              refine x_iload d_Mo_generalise_350 rfl ?_
              refine x_if_eq (tgt := 359) d_Mo_generalise_352 (by decide) (fun c352 => ?_) (fun c352 => ?_)
              · exact absurd c352 (by decide)
              · refine x_iload_n d_Mo_generalise_355 rfl rfl ?_
                refine x_goto (tgt := 360) d_Mo_generalise_356 (by decide) ?_
                refine x_iload_n d_Mo_generalise_360 rfl rfl ?_
                refine x_iload d_Mo_generalise_361 rfl ?_
                refine x_if_eq (tgt := 373) d_Mo_generalise_363 (by decide) (fun c363 => ?_) (fun c363 => ?_)
                · exact absurd c363 (by decide)
                · first | refine x_aload_n d_Mo_generalise_366 rfl rfl ?_ | refine x_aloadN_n d_Mo_generalise_366 rfl rfl ?_ | refine x_aloadE_n d_Mo_generalise_366 rfl rfl ?_ | refine x_aloadO_n d_Mo_generalise_366 rfl rfl ?_
                  refine x_getR d_Mo_generalise_367 f_Mo_107 rfl (by first | exact hM.1 | exact hM.s rfl | assumption) (hM.r rfl) ?_
                  refine x_goto (tgt := 377) d_Mo_generalise_370 (by decide) ?_
                  refine x_callV3 d_Mo_generalise_377 k_Mo_let l_Mo_233 v_Mo_let rfl s_Mo_let (by first | exact hM.1 | exact hM.s rfl | assumption) RoomE.m (Nat.le_of_ble_eq_true rfl) (c_Mo_let (σ0 := τ2) (cp := 424) (zu := zu) (zl := zl) ((hM.w (a := 400) (j := b) (v := 7)).w (a := 405) (j := b) (v := τ2.1 391 13)) rfl hS (fun f hf => by rw [f02.2 393 (by simp [gnS])]; exact hp f hf) hR2.hole hW1.hole (by rw [eN1]; exact hb) hCb (fun m hm hmb h6 => hW1.noU (by rw [ek1]; exact h8) m hm hmb h6) hCI hzu1 hc1 hl1 (st := gD S1) (fun i hi => by rw [et1, ← hzl]; exact (hCI.2.2.2.2 i hi).2) (hM.s rfl) (Or.inr rfl) (by rw [wI_o (by decide), wI_o (by decide)]; exact g1) (by rw [wI_o (by decide), wI_o (by decide)]; exact g2) (fun i hi => by rw [wI_o (by decide), wI_o (by decide)]; exact (g7 hgf).2.2 i hi) (fun k hk => by rw [wI_o (by decide), wI_o (by decide)]; exact (g3 k hk).2) (fun τ4 f4 o4 q1 q2 => ?_))
                  exact x_return d_Mo_generalise_380 rfl (hQ τ4 (((f02.put (by simp [gnS])).put (by simp [gnS])).tr (f4.mono (by simp [gnS]))) (fun j hj => by rw [o4 j hj.1 hj.2.1, wI_o (by decide), wI_o (by decide)]; exact h02 j hj) (by rw [hT2]; exact q1) (by rw [hT2]; exact q2))
          · exact absurd c325 (by decide)
        | false =>
          rw [if_neg (by decide)] at hT2
          obtain ⟨r1, r2, r3, r4, r5, r6, r7, r8, r9⟩ := hW1.rm (a := a) (by rw [eN1]; exact ha) (by rw [ek1]; exact h34)
          refine x_istore d_Mo_generalise_321 rfl ?_
          refine x_iload d_Mo_generalise_323 rfl ?_
          refine x_if_ne (tgt := 333) d_Mo_generalise_325 (by decide) (fun c325 => ?_) (fun c325 => ?_)
          · exact absurd rfl c325
          · first | refine x_aload_n d_Mo_generalise_328 rfl rfl ?_ | refine x_aloadN_n d_Mo_generalise_328 rfl rfl ?_ | refine x_aloadE_n d_Mo_generalise_328 rfl rfl ?_ | refine x_aloadO_n d_Mo_generalise_328 rfl rfl ?_
            refine x_iload_n d_Mo_generalise_329 rfl rfl ?_
            refine x_callV1 d_Mo_generalise_330 k_Mo_goBelow l_Mo_230 v_Mo_goBelow rfl s_Mo_goBelow (by first | exact hM.1 | exact hM.s rfl | assumption) RoomE.m (Nat.le_of_ble_eq_true rfl) (c_Mo_goBelow hM hR2 hW1 (by rw [eN1]; exact ha) (fun τ3 f3 k3 => ?_))
            have hM3 := hM.fr f3
            have hM := hM3
            first | refine x_aload_n d_Mo_generalise_333 rfl rfl ?_ | refine x_aloadN_n d_Mo_generalise_333 rfl rfl ?_ | refine x_aloadE_n d_Mo_generalise_333 rfl rfl ?_ | refine x_aloadO_n d_Mo_generalise_333 rfl rfl ?_
            refine x_iload d_Mo_generalise_334 rfl ?_
            refine x_if_eq (tgt := 343) d_Mo_generalise_336 (by decide) (fun c336 => ?_) (fun c336 => ?_)
            · refine x_iload_n d_Mo_generalise_343 rfl rfl ?_
              refine x_bipush (v := 7) d_Mo_generalise_344 (by decide) ?_
              refine x_callV2 d_Mo_generalise_346 k_Mo_becomes l_Mo_201 v_Mo_becomes rfl s_Mo_becomes (by first | exact hM.1 | exact hM.s rfl | assumption) RoomE.m (Nat.le_of_ble_eq_true rfl) (c_Mo_becomes hM (show a < 48 by omega) ?_)
              first | refine x_aload_n d_Mo_generalise_349 rfl rfl ?_ | refine x_aloadN_n d_Mo_generalise_349 rfl rfl ?_ | refine x_aloadE_n d_Mo_generalise_349 rfl rfl ?_ | refine x_aloadO_n d_Mo_generalise_349 rfl rfl ?_
              refine x_iload d_Mo_generalise_350 rfl ?_
              refine x_if_eq (tgt := 359) d_Mo_generalise_352 (by decide) (fun c352 => ?_) (fun c352 => ?_)
              · refine x_iload_n d_Mo_generalise_359 rfl rfl ?_
                refine x_iload_n d_Mo_generalise_360 rfl rfl ?_
                refine x_iload d_Mo_generalise_361 rfl ?_
                refine x_if_eq (tgt := 373) d_Mo_generalise_363 (by decide) (fun c363 => ?_) (fun c363 => ?_)
                · first | refine x_aload_n d_Mo_generalise_373 rfl rfl ?_ | refine x_aloadN_n d_Mo_generalise_373 rfl rfl ?_ | refine x_aloadE_n d_Mo_generalise_373 rfl rfl ?_ | refine x_aloadO_n d_Mo_generalise_373 rfl rfl ?_
                  refine x_getR d_Mo_generalise_374 f_Mo_104 rfl (by first | exact hM.1 | exact hM.s rfl | assumption) (hM.r rfl) ?_
                  refine x_callV3 d_Mo_generalise_377 k_Mo_let l_Mo_233 v_Mo_let rfl s_Mo_let (by first | exact hM.1 | exact hM.s rfl | assumption) RoomE.m (Nat.le_of_ble_eq_true rfl) (c_Mo_let (σ0 := τ3) (cp := 423) (zu := zu) (zl := zl) ((hM.w (a := 400) (j := a) (v := 7)).w (a := 405) (j := a) (v := τ3.1 391 13)) rfl hS (fun f hf => by rw [f3.2 393 (by simp), f02.2 393 (by simp [gnS])]; exact hp f hf) (hR2.rm hW1 (by rw [eN1]; exact ha) f3 k3) r1 (by rw [r2, eN1]; exact ha) (by rw [r2]; exact r4) (fun m hm hmb h6 => r8 m (by rw [← r2]; exact hm) hmb h6) ⟨hCI.1, by rw [r3]; exact hCI.2.1, hCI.2.2⟩ hzu1 hc1 hl1 (st := gU S1) (fun i hi => by rw [r7, et1, ← hzu]; exact (hCI.2.2.2.2 i hi).1) (hM.s rfl) (Or.inl rfl) (by rw [wI_o (by decide), wI_o (by decide), f3.2 391 (by simp)]; exact g1) (by rw [wI_o (by decide), wI_o (by decide), f3.2 391 (by simp)]; exact g2) (fun i hi => by rw [wI_o (by decide), wI_o (by decide), f3.2 422 (by simp)]; exact (g7 hgf).2.2 i hi) (fun k hk => by rw [wI_o (by decide), wI_o (by decide), f3.2 423 (by simp)]; exact (g3 k hk).1 rfl) (fun τ4 f4 o4 q1 q2 => ?_))
                  exact x_return d_Mo_generalise_380 rfl (hQ τ4 ((((f02.tr (f3.mono (by simp [gnS]))).put (by simp [gnS])).put (by simp [gnS])).tr (f4.mono (by simp [gnS]))) (fun j hj => by rw [o4 j hj.1 hj.2.1, wI_o (by decide), wI_o (by decide), f3.2 391 (by simp)]; exact h02 j hj) (by rw [hT2]; exact q1) (by rw [hT2]; exact q2))
                · exact absurd rfl c363
              · exact absurd rfl c352
            · exact absurd rfl c336
      refine x_iload d_Mo_generalise_281 rfl ?_
      refine x_if_ne (tgt := 316) d_Mo_generalise_283 (by decide) (fun c283 => ?_) (fun c283 => ?_)
      · exact absurd rfl c283
      · first | refine x_aload_n d_Mo_generalise_286 rfl rfl ?_ | refine x_aloadN_n d_Mo_generalise_286 rfl rfl ?_ | refine x_aloadE_n d_Mo_generalise_286 rfl rfl ?_ | refine x_aloadO_n d_Mo_generalise_286 rfl rfl ?_
        first | refine x_aload_n d_Mo_generalise_287 rfl rfl ?_ | refine x_aloadN_n d_Mo_generalise_287 rfl rfl ?_ | refine x_aloadE_n d_Mo_generalise_287 rfl rfl ?_ | refine x_aloadO_n d_Mo_generalise_287 rfl rfl ?_
        refine x_getR d_Mo_generalise_288 f_Mo_41 rfl (by first | exact hM.1 | exact hM.s rfl | assumption) (hM.r rfl) ?_
        refine x_bipush (v := 40) d_Mo_generalise_291 (by decide) ?_
        refine x_iload_n d_Mo_generalise_293 rfl rfl ?_
        skip
        refine x_imul d_Mo_generalise_294 ?_
        rw [mul40]
        first | refine x_aload_n d_Mo_generalise_295 rfl rfl ?_ | refine x_aloadN_n d_Mo_generalise_295 rfl rfl ?_ | refine x_aloadE_n d_Mo_generalise_295 rfl rfl ?_ | refine x_aloadO_n d_Mo_generalise_295 rfl rfl ?_
        refine x_getR d_Mo_generalise_296 f_Mo_44 rfl (by first | exact hM.1 | exact hM.s rfl | assumption) (hM.r rfl) ?_
        refine x_iload_n d_Mo_generalise_299 rfl rfl ?_
        refine x_iald d_Mo_generalise_300 (by first | exact hM.1 | exact hM.s rfl | assumption) (vp_in_nI (show a < 48 by omega) (by decide)) ?_
        rw [nI_clamp (by omega), f0.2 403 (by simp), (hR.2.2.2 a ha).1.2.2.1.1, ← hzu]
        first | refine x_aload_n d_Mo_generalise_301 rfl rfl ?_ | refine x_aloadN_n d_Mo_generalise_301 rfl rfl ?_ | refine x_aloadE_n d_Mo_generalise_301 rfl rfl ?_ | refine x_aloadO_n d_Mo_generalise_301 rfl rfl ?_
        refine x_getR d_Mo_generalise_302 f_Mo_101 rfl (by first | exact hM.1 | exact hM.s rfl | assumption) (hM.r rfl) ?_
        refine x_iconst (v := 0) d_Mo_generalise_305 (by decide) ?_
        refine Wq.top (y := nI 0) nI_0.symm ?_
        first | refine x_aload_n d_Mo_generalise_306 rfl rfl ?_ | refine x_aloadN_n d_Mo_generalise_306 rfl rfl ?_ | refine x_aloadE_n d_Mo_generalise_306 rfl rfl ?_ | refine x_aloadO_n d_Mo_generalise_306 rfl rfl ?_
        refine x_getI d_Mo_generalise_307 f_Mo_223 rfl (by first | exact hM.1 | exact hM.s rfl | assumption) ?_
        rw [hG.2.1]
        refine x_callV6 d_Mo_generalise_310 k_Mo_renames l_Mo_186 v_Mo_renames rfl s_Mo_renames (by first | exact hM.1 | exact hM.s rfl | assumption) RoomE.m (Nat.le_of_ble_eq_true rfl) (c_Mo_renames (zs := zu) (ws := gL S1) hM (hM.s rfl) (hM.s rfl) (by decide) (by decide) (by omega) (by omega) (by decide) (by decide) (by omega) (by omega) (htw.2.2.2.1.fr f0 (by simp)) (hG.2.2.2.2.2.2.1 hgf).2.2 (by rw [hzu]; exact (hW.2.2 a ha).1.1.2.mono (fun _ _ _ => trivial)) hglal (fun τ2 f2 m2 => ?_))
        refine x_if_eq (tgt := 320) d_Mo_generalise_313 (by decide) (fun c313 => ?_) (fun c313 => ?_)
        · refine x_iconst (v := 0) d_Mo_generalise_320 (by decide) ?_
          have f02 : FrI gnS σ τ2 := (f0.mono (by simp [gnS])).tr (f2.mono (by simp [gnS]))
          have hG2 : GI τ2 a b V0 zu zl true S1 T1 := by
            obtain ⟨y1, y2, y3, y4, y5, y6, y7, y8⟩ := hG
            exact ⟨by rw [f2.2 391 (by simp)]; exact y1, by rw [f2.2 391 (by simp)]; exact y2, by rw [f2.2 423 (by simp), f2.2 424 (by simp)]; exact y3, by rw [f2.2 391 (by simp)]; exact y4, by rw [f2.2 391 (by simp)]; exact y5, y6, fun z => ⟨(y7 z).1, (y7 z).2.1, (y7 z).2.2.fr f2 (by simp)⟩, y8⟩
          have h02 : ∀ j, gnF j → τ2.1 391 j = σ.1 391 j := fun j hj => by rw [f2.2 391 (by simp)]; exact h0j j hj.1 hj.2.2.1 hj.2.2.2.1 hj.2.2.2.2
          first
          | exact j321 false 0 τ2 rfl f02 h02 hG2 (hR1.fr f2 (by simp)) (by rw [if_neg (by decide), hT20, renI_sy, if_neg (by rw [bI_0 c313]; decide)])
          | exact j321 true 1 τ2 rfl f02 h02 hG2 (hR1.fr f2 (by simp)) (by rw [if_pos rfl, hT20, renI_sy, if_pos (bI_n0 c313)])
        · refine x_iconst (v := 1) d_Mo_generalise_316 (by decide) ?_
          refine x_goto (tgt := 321) d_Mo_generalise_317 (by decide) ?_
          have f02 : FrI gnS σ τ2 := (f0.mono (by simp [gnS])).tr (f2.mono (by simp [gnS]))
          have hG2 : GI τ2 a b V0 zu zl true S1 T1 := by
            obtain ⟨y1, y2, y3, y4, y5, y6, y7, y8⟩ := hG
            exact ⟨by rw [f2.2 391 (by simp)]; exact y1, by rw [f2.2 391 (by simp)]; exact y2, by rw [f2.2 423 (by simp), f2.2 424 (by simp)]; exact y3, by rw [f2.2 391 (by simp)]; exact y4, by rw [f2.2 391 (by simp)]; exact y5, y6, fun z => ⟨(y7 z).1, (y7 z).2.1, (y7 z).2.2.fr f2 (by simp)⟩, y8⟩
          have h02 : ∀ j, gnF j → τ2.1 391 j = σ.1 391 j := fun j hj => by rw [f2.2 391 (by simp)]; exact h0j j hj.1 hj.2.2.1 hj.2.2.2.1 hj.2.2.2.2
          first
          | exact j321 false 0 τ2 rfl f02 h02 hG2 (hR1.fr f2 (by simp)) (by rw [if_neg (by decide), hT20, renI_sy, if_neg (by rw [bI_0 c313]; decide)])
          | exact j321 true 1 τ2 rfl f02 h02 hG2 (hR1.fr f2 (by simp)) (by rw [if_pos rfl, hT20, renI_sy, if_pos (bI_n0 c313)])
    · exact x_return d_Mo_generalise_280 rfl (hQ τ (f0.mono (by simp [gnS])) (fun j hj => h0j j hj.1 hj.2.2.1 hj.2.2.2.1 hj.2.2.2.2) (fun _ => ⟨by rw [hG.2.2.2.2.1, bI_n0 c277]; rfl, (hR.gw hW).cg (f0.2 400 (by simp)) (f0.2 402 (by simp)) (f0.2 403 (by simp)) (h0j 13 (by decide) (by decide) (by decide) (by decide))⟩) (fun z => by
        have : tG T2 = true := by rw [hT20]; exact hgT (bI_n0 c277)
        rw [this] at z; cases z))
  have lp : ∀ (w fu i j m : Nat) (S1 : GS) (T1 : TS) (τ : Mem), zu.length < i + w → zu.length ≤ i + fu → i ≤ zu.length → j ≤ zl.length → full (nP (sgP pt)) m (zu.drop i) = true → full (nP (sgP pt)) m (zl.drop j) = true → gC S1 ≤ i → (gL S1).length ≤ i → tCom (sgP pt) zu zl fu i j S1 T1 = RR → FrI [391, 422, 423, 424] σ τ → (∀ j, j ≠ 12 → j ≠ 14 → j ≠ 38 → j ≠ 40 → τ.1 391 j = σ.1 391 j) → GI τ a b V0 zu zl true S1 T1 → Wq G M_Mo_generalise (Em G (d + 4) 0 0 Q) 0 0 164 [some (rf G 391), some (.int (nI b)), some (.int (nI a)), some (.int (nI V0)), some (.int (nI (40 * a + i))), some (.int (nI (40 * b + j))), some (.int (bI false)), none] [] [] Γ τ := by
    intro w
    induction w with
    | zero => intro fu i j m S1 T1 τ h1 h2 h3; omega
    | succ w ih =>
    intro fu i j m S1 T1 τ hw hfu hile hjle hf1 hf2 hgi hgl hRR f0 h0j hG
    have hM := hM0.fr f0
    have htw1 := htw.fr f0 (by simp) (by simp) (by simp)
    refine x_iload d_Mo_generalise_164 rfl ?_
    refine x_if_ne (tgt := 273) d_Mo_generalise_166 (by decide) (fun c166 => ?_) (fun c166 => ?_)
    · exact absurd rfl c166
    · refine x_iload d_Mo_generalise_169 rfl ?_
      refine x_bipush (v := 40) d_Mo_generalise_171 (by decide) ?_
      refine x_iload_n d_Mo_generalise_173 rfl rfl ?_
      refine x_imul d_Mo_generalise_174 ?_
      rw [mul40]
      first | refine x_aload_n d_Mo_generalise_175 rfl rfl ?_ | refine x_aloadN_n d_Mo_generalise_175 rfl rfl ?_ | refine x_aloadE_n d_Mo_generalise_175 rfl rfl ?_ | refine x_aloadO_n d_Mo_generalise_175 rfl rfl ?_
      refine x_getR d_Mo_generalise_176 f_Mo_44 rfl (by first | exact hM.1 | exact hM.s rfl | assumption) (hM.r rfl) ?_
      refine x_iload_n d_Mo_generalise_179 rfl rfl ?_
      refine x_iald d_Mo_generalise_180 (by first | exact hM.1 | exact hM.s rfl | assumption) (vp_in_nI (show a < 48 by omega) (by decide)) ?_
      rw [nI_clamp (by omega), f0.2 403 (by simp), (hR.2.2.2 a ha).1.2.2.1.1, ← hzu]
      refine x_iadd d_Mo_generalise_181 ?_
      rw [nI_add]
      refine x_icmp_ge (tgt := 273) d_Mo_generalise_182 (by decide) (fun c182 => ?_) (fun c182 => ?_)
      · have e : i = zu.length := by have := (nI_leI (by omega) (by omega)).mp c182; omega
        have hR' : (S1, T1) = RR := by
          rw [← hRR]
          cases fu with
          | zero => rfl
          | succ g => unfold tCom; rw [if_neg (by omega)]
        have q1 : RR.1 = S1 := by rw [← hR']
        have q2 : RR.2 = T1 := by rw [← hR']
        exact tl S1 T1 τ _ _ _ f0 h0j hG (by rw [← q2]; exact hDD) (fun z => by rw [← q1, ← q2]; exact hspec (by rw [q2]; exact z)) (by omega) (by rw [← q1, ← q2]; exact hT2e) (fun z => by
          by_cases y : renI (gL S1) zu = true
          · rw [if_pos y]; exact tLet_G z
          · rw [if_neg y]; exact tLet_G (by rw [tRm_G]; exact z))
      · have hi : i < zu.length := by
          have : ¬ 40 * a + zu.length ≤ 40 * a + i := fun z => c182 (nI_le z (by omega))
          omega
        have hj : j < zl.length := by
          obtain ⟨m0, em, _, _⟩ := full_step hf1 hi
          rw [em] at hf2
          have := full_ne hf2
          rw [List.length_drop] at this
          omega
        obtain ⟨s1, e1, ok1, _, _⟩ := htw1.2.2.2.2.2.2.2.1.getD hi
        obtain ⟨s2, e2, ok2, _, _⟩ := htw1.2.2.2.2.2.2.2.2.getD hj
        have hs1 := ok1.le
        have hs2 := ok2.le
        obtain ⟨g, rfl⟩ : ∃ r, fu = r + 1 := ⟨fu - 1, by omega⟩
        first | refine x_aload_n d_Mo_generalise_185 rfl rfl ?_ | refine x_aloadN_n d_Mo_generalise_185 rfl rfl ?_ | refine x_aloadE_n d_Mo_generalise_185 rfl rfl ?_ | refine x_aloadO_n d_Mo_generalise_185 rfl rfl ?_
        refine x_getR d_Mo_generalise_186 f_Mo_41 rfl (by first | exact hM.1 | exact hM.s rfl | assumption) (hM.r rfl) ?_
        refine x_iload d_Mo_generalise_189 rfl ?_
        refine x_iald d_Mo_generalise_191 (by first | exact hM.1 | exact hM.s rfl | assumption) (vp_in_nI (show 40 * a + i < 1920 by omega) (by decide)) ?_
        rw [nI_clamp (by omega), htw1.2.2.2.1 i hi, e1]
        first | refine x_aload_n d_Mo_generalise_192 rfl rfl ?_ | refine x_aloadN_n d_Mo_generalise_192 rfl rfl ?_ | refine x_aloadE_n d_Mo_generalise_192 rfl rfl ?_ | refine x_aloadO_n d_Mo_generalise_192 rfl rfl ?_
        refine x_getR d_Mo_generalise_193 f_Mo_41 rfl (by first | exact hM.1 | exact hM.s rfl | assumption) (hM.r rfl) ?_
        refine x_iload d_Mo_generalise_196 rfl ?_
        refine x_iald d_Mo_generalise_198 (by first | exact hM.1 | exact hM.s rfl | assumption) (vp_in_nI (show 40 * b + j < 1920 by omega) (by decide)) ?_
        rw [nI_clamp (by omega), htw1.2.2.2.2.1 j hj, e2]
        refine x_icmp_ne (tgt := 237) d_Mo_generalise_199 (by decide) (fun c199 => ?_) (fun c199 => ?_)
        · obtain ⟨m1, hm1⟩ := full_sfx htw1.2.2.2.2.2.1 hi
          obtain ⟨m2, hm2⟩ := full_sfx htw1.2.2.2.2.2.2.1 hj
          first | refine x_aload_n d_Mo_generalise_237 rfl rfl ?_ | refine x_aloadN_n d_Mo_generalise_237 rfl rfl ?_ | refine x_aloadE_n d_Mo_generalise_237 rfl rfl ?_ | refine x_aloadO_n d_Mo_generalise_237 rfl rfl ?_
          refine x_iload_n d_Mo_generalise_238 rfl rfl ?_
          refine x_iload d_Mo_generalise_239 rfl ?_
          refine x_iload d_Mo_generalise_241 rfl ?_
          refine x_callV3 d_Mo_generalise_243 k_Mo_differ l_Mo_226 v_Mo_differ rfl s_Mo_differ (by first | exact hM.1 | exact hM.s rfl | assumption) RoomE.m (Nat.le_of_ble_eq_true rfl) (c_Mo_differ hM hP htw1 hG hi hj hgi hgl (by have := hW.1.2.1; omega) (fun τ2 f2 o2 hG2 => ?_))
          have hM2 := hM.fr f2
          have hM := hM2
          have htw2 := htw1.fr f2 (by simp) (by simp) (by simp)
          first | refine x_aload_n d_Mo_generalise_246 rfl rfl ?_ | refine x_aloadN_n d_Mo_generalise_246 rfl rfl ?_ | refine x_aloadE_n d_Mo_generalise_246 rfl rfl ?_ | refine x_aloadO_n d_Mo_generalise_246 rfl rfl ?_
          first | refine x_aload_n d_Mo_generalise_247 rfl rfl ?_ | refine x_aloadN_n d_Mo_generalise_247 rfl rfl ?_ | refine x_aloadE_n d_Mo_generalise_247 rfl rfl ?_ | refine x_aloadO_n d_Mo_generalise_247 rfl rfl ?_
          refine x_getR d_Mo_generalise_248 f_Mo_41 rfl (by first | exact hM.1 | exact hM.s rfl | assumption) (hM.r rfl) ?_
          refine x_iload d_Mo_generalise_251 rfl ?_
          refine x_callV2 d_Mo_generalise_253 k_Mo_end l_Mo_164 v_Mo_end rfl s_Mo_end (by first | exact hM.1 | exact hM.s rfl | assumption) RoomE.m (Nat.le_of_ble_eq_true rfl) (c_Mo_end (i := i) (m := m1) hM (hM.s rfl) htw2.2.2.2.1 (by omega) (by decide) htw2.2.2.2.2.2.2.2.1 hm1 ?_)
          refine x_istore d_Mo_generalise_256 rfl ?_
          first | refine x_aload_n d_Mo_generalise_258 rfl rfl ?_ | refine x_aloadN_n d_Mo_generalise_258 rfl rfl ?_ | refine x_aloadE_n d_Mo_generalise_258 rfl rfl ?_ | refine x_aloadO_n d_Mo_generalise_258 rfl rfl ?_
          first | refine x_aload_n d_Mo_generalise_259 rfl rfl ?_ | refine x_aloadN_n d_Mo_generalise_259 rfl rfl ?_ | refine x_aloadE_n d_Mo_generalise_259 rfl rfl ?_ | refine x_aloadO_n d_Mo_generalise_259 rfl rfl ?_
          refine x_getR d_Mo_generalise_260 f_Mo_41 rfl (by first | exact hM.1 | exact hM.s rfl | assumption) (hM.r rfl) ?_
          refine x_iload d_Mo_generalise_263 rfl ?_
          refine x_callV2 d_Mo_generalise_265 k_Mo_end l_Mo_164 v_Mo_end rfl s_Mo_end (by first | exact hM.1 | exact hM.s rfl | assumption) RoomE.m (Nat.le_of_ble_eq_true rfl) (c_Mo_end (i := j) (m := m2) hM (hM.s rfl) htw2.2.2.2.2.1 (by omega) (by decide) htw2.2.2.2.2.2.2.2.2 hm2 ?_)
          refine x_istore d_Mo_generalise_268 rfl ?_
          refine x_goto (tgt := 164) d_Mo_generalise_270 (by decide) ?_
          first
          | (have e12 : zu.getD i (-1) = zl.getD j (-1) := by rw [e1, e2]; exact c199
             obtain ⟨m0, rfl, b1, _⟩ := full_step hf1 hi
             obtain ⟨m0', em, b2, _⟩ := full_step hf2 hj
             obtain rfl : m0 = m0' := by omega
             exact Wq.fg (ih g (i + 1) (j + 1) (m0 + nP (sgP pt) (zu.getD i (-1))) (gAdd S1 (zu.getD i (-1))) T1 _ (by omega) (by omega) (by omega) (by omega) b1 (by rw [e12]; exact b2) (by show gC S1 ≤ i + 1; omega) (by show (gL S1 ++ [_]).length ≤ i + 1; rw [List.length_append]; simp; omega) (by rw [← hRR, tCom_c, if_pos hi, if_pos e12]) ((f0.put (by simp)).put (by simp)) (fun q a1 a2 a3 a4 => by rw [wI_j a3, wI_o (by decide)]; exact h0j q a1 a2 a3 a4) (by
               obtain ⟨y1, y2, y3, y4, y5, y6, y7, y8⟩ := hG
               refine ⟨by rw [wI_j (by decide), wI_o (by decide)]; exact y1, ?_, fun k hk => by rw [wI_o (by decide), wI_o (by decide), wI_o (by decide), wI_o (by decide)]; exact y3 k hk, by rw [wI_j (by decide), wI_o (by decide)]; exact y4, by rw [wI_j (by decide), wI_o (by decide)]; exact y5, y6, fun z => ⟨(y7 z).1, (y7 z).2.1, ?_⟩, y8⟩
               · rw [wI_s]
                 show _ = nI (gL S1 ++ [zu.getD i (-1)]).length
                 rw [List.length_append]; rfl
               · show seg _ 422 0 (gL S1 ++ [zu.getD i (-1)])
                 rw [e1]
                 intro q hq
                 rw [wI_o (by decide)]
                 exact seg_app (y7 z).2.2 (by omega) q hq)) ⟨rfl, rfl, rfl, rfl, rfl, rfl, rfl, lsub_rf⟩)
          | (have e12 : ¬ zu.getD i (-1) = zl.getD j (-1) := by rw [e1, e2]; exact c199
             obtain ⟨m0, rfl, _, b1⟩ := full_step hf1 hi
             obtain ⟨m0', em, _, b2⟩ := full_step hf2 hj
             obtain rfl : m0 = m0' := by omega
             have hbu : behind (sgP pt) zu i = i + tk (nP (sgP pt)) 1 (zu.drop i) := behind_tk hP (by omega) i
             have hbl : behind (sgP pt) zl j = j + tk (nP (sgP pt)) 1 (zl.drop j) := behind_tk hP (by omega) j
             have hgt : i < behind (sgP pt) zu i := behind_gt hP (by omega) hi
             have hble : behind (sgP pt) zu i ≤ zu.length := behind_le (by omega)
             have hblj : behind (sgP pt) zl j ≤ zl.length := behind_le (by omega)
             have hdf : gC (dfS (sgP pt) zu zl i j S1 T1).1 ≤ gC S1 + 1 ∧ (gL (dfS (sgP pt) zu zl i j S1 T1).1).length ≤ (gL S1).length + 1 := by
               obtain ⟨n1, n2, -⟩ := gN1_spec (S := S1) (v := (tNew T1).2) (u := i) (l := j) (by omega)
               unfold dfS
               split
               · exact ⟨Nat.le_succ _, by show (gL S1 ++ [_]).length ≤ _; rw [List.length_append]; exact Nat.le_refl _⟩
               · exact ⟨by show gC (gN1 S1 _ i j) ≤ _; rw [n2]; exact Nat.le_refl _, by show (gL (gN1 S1 _ i j) ++ [_]).length ≤ _; rw [n1, List.length_append]; exact Nat.le_refl _⟩
             exact Wq.fg (ih g (behind (sgP pt) zu i) (behind (sgP pt) zl j) m0 (dfS (sgP pt) zu zl i j S1 T1).1 (dfS (sgP pt) zu zl i j S1 T1).2 τ2 (by omega) (by omega) hble hblj (by rw [hbu]; exact b1) (by rw [hbl]; exact b2) (by omega) (by omega) (by rw [← hRR, tCom_c, if_pos hi, if_neg e12]) (f0.tr (f2.mono (by simp))) (fun q a1 a2 a3 a4 => by rw [o2 q a1 a2 a3 a4]; exact h0j q a1 a2 a3 a4) hG2) ⟨rfl, rfl, rfl, rfl, by rw [hbu, Nat.add_assoc], by rw [hbl, Nat.add_assoc], rfl, lsub_rf⟩)
        · first | refine x_aload_n d_Mo_generalise_202 rfl rfl ?_ | refine x_aloadN_n d_Mo_generalise_202 rfl rfl ?_ | refine x_aloadE_n d_Mo_generalise_202 rfl rfl ?_ | refine x_aloadO_n d_Mo_generalise_202 rfl rfl ?_
          refine x_getR d_Mo_generalise_203 f_Mo_101 rfl (by first | exact hM.1 | exact hM.s rfl | assumption) (hM.r rfl) ?_
          first | refine x_aload_n d_Mo_generalise_206 rfl rfl ?_ | refine x_aloadN_n d_Mo_generalise_206 rfl rfl ?_ | refine x_aloadE_n d_Mo_generalise_206 rfl rfl ?_ | refine x_aloadO_n d_Mo_generalise_206 rfl rfl ?_
          refine x_getI d_Mo_generalise_207 f_Mo_223 rfl (by first | exact hM.1 | exact hM.s rfl | assumption) ?_
          rw [hG.2.1]
          first | refine x_aload_n d_Mo_generalise_210 rfl rfl ?_ | refine x_aloadN_n d_Mo_generalise_210 rfl rfl ?_ | refine x_aloadE_n d_Mo_generalise_210 rfl rfl ?_ | refine x_aloadO_n d_Mo_generalise_210 rfl rfl ?_
          refine x_getR d_Mo_generalise_211 f_Mo_41 rfl (by first | exact hM.1 | exact hM.s rfl | assumption) (hM.r rfl) ?_
          refine x_iload d_Mo_generalise_214 rfl ?_
          refine x_iald d_Mo_generalise_216 (by first | exact hM.1 | exact hM.s rfl | assumption) (vp_in_nI (show 40 * a + i < 1920 by omega) (by decide)) ?_
          rw [nI_clamp (by omega), htw1.2.2.2.1 i hi, e1]
          refine x_iast d_Mo_generalise_217 (by first | exact hM.1 | exact hM.s rfl | assumption) (vp_in_nI (show (gL S1).length < 40 by omega) (by decide)) ?_
          rw [nI_clamp (by omega)]
          first | refine x_aload_n d_Mo_generalise_218 rfl rfl ?_ | refine x_aloadN_n d_Mo_generalise_218 rfl rfl ?_ | refine x_aloadE_n d_Mo_generalise_218 rfl rfl ?_ | refine x_aloadO_n d_Mo_generalise_218 rfl rfl ?_
          refine x_dup d_Mo_generalise_219 rfl ?_
          refine x_getI d_Mo_generalise_220 f_Mo_223 rfl (by first | exact hM.1 | exact hM.s rfl | assumption) ?_
          rw [wI_o (by decide), hG.2.1]
          refine x_iconst (v := 1) d_Mo_generalise_223 (by decide) ?_
          refine x_iadd d_Mo_generalise_224 ?_
          rw [nI_1]
          refine x_putI d_Mo_generalise_225 (w_Mo_m_223 _) rfl (by first | rfl | decide) (by first | rfl | decide) (by first | exact hM.1 | exact hM.s rfl | assumption) ?_
          refine x_iinc (v := nI (40 * a + (i + 1))) d_Mo_generalise_228 rfl (nI_1 (40 * a + i)) rfl ?_
          refine x_iinc (v := nI (40 * b + (j + 1))) d_Mo_generalise_231 rfl (nI_1 (40 * b + j)) rfl ?_
          refine x_goto (tgt := 164) d_Mo_generalise_234 (by decide) ?_
          first
          | (have e12 : zu.getD i (-1) = zl.getD j (-1) := by rw [e1, e2]; exact c199
             obtain ⟨m0, rfl, b1, _⟩ := full_step hf1 hi
             obtain ⟨m0', em, b2, _⟩ := full_step hf2 hj
             obtain rfl : m0 = m0' := by omega
             exact Wq.fg (ih g (i + 1) (j + 1) (m0 + nP (sgP pt) (zu.getD i (-1))) (gAdd S1 (zu.getD i (-1))) T1 _ (by omega) (by omega) (by omega) (by omega) b1 (by rw [e12]; exact b2) (by show gC S1 ≤ i + 1; omega) (by show (gL S1 ++ [_]).length ≤ i + 1; rw [List.length_append]; simp; omega) (by rw [← hRR, tCom_c, if_pos hi, if_pos e12]) ((f0.put (by simp)).put (by simp)) (fun q a1 a2 a3 a4 => by rw [wI_j a3, wI_o (by decide)]; exact h0j q a1 a2 a3 a4) (by
               obtain ⟨y1, y2, y3, y4, y5, y6, y7, y8⟩ := hG
               refine ⟨by rw [wI_j (by decide), wI_o (by decide)]; exact y1, ?_, fun k hk => by rw [wI_o (by decide), wI_o (by decide), wI_o (by decide), wI_o (by decide)]; exact y3 k hk, by rw [wI_j (by decide), wI_o (by decide)]; exact y4, by rw [wI_j (by decide), wI_o (by decide)]; exact y5, y6, fun z => ⟨(y7 z).1, (y7 z).2.1, ?_⟩, y8⟩
               · rw [wI_s]
                 show _ = nI (gL S1 ++ [zu.getD i (-1)]).length
                 rw [List.length_append]; rfl
               · show seg _ 422 0 (gL S1 ++ [zu.getD i (-1)])
                 rw [e1]
                 intro q hq
                 rw [wI_o (by decide)]
                 exact seg_app (y7 z).2.2 (by omega) q hq)) ⟨rfl, rfl, rfl, rfl, rfl, rfl, rfl, lsub_rf⟩)
          | (have e12 : ¬ zu.getD i (-1) = zl.getD j (-1) := by rw [e1, e2]; exact c199
             obtain ⟨m0, rfl, _, b1⟩ := full_step hf1 hi
             obtain ⟨m0', em, _, b2⟩ := full_step hf2 hj
             obtain rfl : m0 = m0' := by omega
             have hbu : behind (sgP pt) zu i = i + tk (nP (sgP pt)) 1 (zu.drop i) := behind_tk hP (by omega) i
             have hbl : behind (sgP pt) zl j = j + tk (nP (sgP pt)) 1 (zl.drop j) := behind_tk hP (by omega) j
             have hgt : i < behind (sgP pt) zu i := behind_gt hP (by omega) hi
             have hble : behind (sgP pt) zu i ≤ zu.length := behind_le (by omega)
             have hblj : behind (sgP pt) zl j ≤ zl.length := behind_le (by omega)
             have hdf : gC (dfS (sgP pt) zu zl i j S1 T1).1 ≤ gC S1 + 1 ∧ (gL (dfS (sgP pt) zu zl i j S1 T1).1).length ≤ (gL S1).length + 1 := by
               obtain ⟨n1, n2, -⟩ := gN1_spec (S := S1) (v := (tNew T1).2) (u := i) (l := j) (by omega)
               unfold dfS
               split
               · exact ⟨Nat.le_succ _, by show (gL S1 ++ [_]).length ≤ _; rw [List.length_append]; exact Nat.le_refl _⟩
               · exact ⟨by show gC (gN1 S1 _ i j) ≤ _; rw [n2]; exact Nat.le_refl _, by show (gL (gN1 S1 _ i j) ++ [_]).length ≤ _; rw [n1, List.length_append]; exact Nat.le_refl _⟩
             exact Wq.fg (ih g (behind (sgP pt) zu i) (behind (sgP pt) zl j) m0 (dfS (sgP pt) zu zl i j S1 T1).1 (dfS (sgP pt) zu zl i j S1 T1).2 τ2 (by omega) (by omega) hble hblj (by rw [hbu]; exact b1) (by rw [hbl]; exact b2) (by omega) (by omega) (by rw [← hRR, tCom_c, if_pos hi, if_neg e12]) (f0.tr (f2.mono (by simp))) (fun q a1 a2 a3 a4 => by rw [o2 q a1 a2 a3 a4]; exact h0j q a1 a2 a3 a4) hG2) ⟨rfl, rfl, rfl, rfl, by rw [hbu, Nat.add_assoc], by rw [hbl, Nat.add_assoc], rfl, lsub_rf⟩)
  refine Ct.of (lv := [some (rf G 391), some (.int (nI b)), some (.int (nI a)), none, none, none, none, none]) (ll := []) rfl rfl (EN.cat (n := 5) ⟨rfl, rfl, rfl, trivial⟩ (Nat.le_of_ble_eq_true rfl)) ?_
  first | refine x_aload_n d_Mo_generalise_0 rfl rfl ?_ | refine x_aloadN_n d_Mo_generalise_0 rfl rfl ?_ | refine x_aloadE_n d_Mo_generalise_0 rfl rfl ?_ | refine x_aloadO_n d_Mo_generalise_0 rfl rfl ?_
  refine x_getI d_Mo_generalise_1 f_Mo_183 rfl (by first | exact hM.1 | exact hM.s rfl | assumption) ?_
  rw [hR14]
  refine x_istore_n d_Mo_generalise_4 rfl rfl ?_
  refine x_bipush (v := 40) d_Mo_generalise_5 (by decide) ?_
  refine x_iload_n d_Mo_generalise_7 rfl rfl ?_
  refine x_imul d_Mo_generalise_8 ?_
  rw [mul40]
  refine x_istore d_Mo_generalise_9 rfl ?_
  refine x_bipush (v := 40) d_Mo_generalise_11 (by decide) ?_
  refine x_iload_n d_Mo_generalise_13 rfl rfl ?_
  refine x_imul d_Mo_generalise_14 ?_
  rw [mul40]
  refine x_istore d_Mo_generalise_15 rfl ?_
  first | refine x_aload_n d_Mo_generalise_17 rfl rfl ?_ | refine x_aloadN_n d_Mo_generalise_17 rfl rfl ?_ | refine x_aloadE_n d_Mo_generalise_17 rfl rfl ?_ | refine x_aloadO_n d_Mo_generalise_17 rfl rfl ?_
  refine x_getR d_Mo_generalise_18 f_Mo_41 rfl (by first | exact hM.1 | exact hM.s rfl | assumption) (hM.r rfl) ?_
  refine x_iload d_Mo_generalise_21 rfl ?_
  refine Wq.top (y := nI (40 * a + 0)) rfl ?_
  refine x_iald d_Mo_generalise_23 (by first | exact hM.1 | exact hM.s rfl | assumption) (vp_in_nI (show 40 * a + 0 < 1920 by omega) (by decide)) ?_
  rw [nI_clamp (by omega), htw.2.2.2.1 0 hz1, e1]
  first | refine x_aload_n d_Mo_generalise_24 rfl rfl ?_ | refine x_aloadN_n d_Mo_generalise_24 rfl rfl ?_ | refine x_aloadE_n d_Mo_generalise_24 rfl rfl ?_ | refine x_aloadO_n d_Mo_generalise_24 rfl rfl ?_
  refine x_getR d_Mo_generalise_25 f_Mo_41 rfl (by first | exact hM.1 | exact hM.s rfl | assumption) (hM.r rfl) ?_
  refine x_iload d_Mo_generalise_28 rfl ?_
  refine Wq.top (y := nI (40 * b + 0)) rfl ?_
  refine x_iald d_Mo_generalise_30 (by first | exact hM.1 | exact hM.s rfl | assumption) (vp_in_nI (show 40 * b + 0 < 1920 by omega) (by decide)) ?_
  rw [nI_clamp (by omega), htw.2.2.2.2.1 0 hz0, e2]
  refine x_icmp_eq (tgt := 38) d_Mo_generalise_31 (by decide) (fun c31 => ?_) (fun c31 => ?_)
  · refine x_iconst (v := 0) d_Mo_generalise_38 (by decide) ?_
    refine x_istore d_Mo_generalise_39 rfl ?_
    first | refine x_aload_n d_Mo_generalise_41 rfl rfl ?_ | refine x_aloadN_n d_Mo_generalise_41 rfl rfl ?_ | refine x_aloadE_n d_Mo_generalise_41 rfl rfl ?_ | refine x_aloadO_n d_Mo_generalise_41 rfl rfl ?_
    refine x_iconst (v := 0) d_Mo_generalise_42 (by decide) ?_
    refine x_putI d_Mo_generalise_43 (w_Mo_m_223 _) rfl (by first | rfl | decide) (by first | rfl | decide) (by first | exact hM.1 | exact hM.s rfl | assumption) ?_
    first | refine x_aload_n d_Mo_generalise_46 rfl rfl ?_ | refine x_aloadN_n d_Mo_generalise_46 rfl rfl ?_ | refine x_aloadE_n d_Mo_generalise_46 rfl rfl ?_ | refine x_aloadO_n d_Mo_generalise_46 rfl rfl ?_
    refine x_iconst (v := 0) d_Mo_generalise_47 (by decide) ?_
    refine x_putI d_Mo_generalise_48 (w_Mo_m_216 _) rfl (by first | rfl | decide) (by first | rfl | decide) (by first | exact hM.1 | exact hM.s rfl | assumption) ?_
    refine x_iload d_Mo_generalise_51 rfl ?_
    refine x_if_eq (tgt := 164) d_Mo_generalise_53 (by decide) (fun c53 => ?_) (fun c53 => ?_)
    · exact Wq.fg (lp (zu.length + 1) 40 0 0 1 (gZ S) T _ (by omega) (by omega) (by omega) (by omega) htw.2.2.2.2.2.1 htw.2.2.2.2.2.2.1 (Nat.le_refl _) (Nat.le_refl _) hRRd.symm ((FrI.rf.put (by simp)).put (by simp)) (fun q a1 a2 a3 a4 => by rw [wI_j a4, wI_j a3]) ⟨by rw [wI_s, nI_0.symm]; rfl, by rw [wI_j (by decide), wI_s]; exact nI_0.symm, fun k hk => absurd hk (Nat.not_lt_zero _), by rw [wI_j (by decide), wI_j (by decide)]; exact hR14, by rw [wI_j (by decide), wI_j (by decide), hR.1, hW.2.1]; rfl, by rw [hW.2.1]; exact (decide_eq_false (by show ¬ 100 < V0 + 0; omega)).symm, fun _ => ⟨hV0.symm, fun z => absurd z (Nat.lt_irrefl 0), seg.nil⟩, fun k hk => absurd hk (Nat.not_lt_zero _)⟩) ⟨rfl, rfl, rfl, rfl, rfl, rfl, rfl, trivial⟩
    · exact absurd rfl c53
  · exact absurd h0 (by rw [e1, e2]; exact c31)
set_option maxRecDepth 10000 in
set_option maxHeartbeats 1000000 in
theorem c_Mo_generalise_o {G : Ctx} {d : Nat} {Γ : List Sh} {σ : Mem} {Q : Option Value → List Sh → Mem → Prop} {pt : Nat → Int32} {cs : Nat → Bool} {T : TS} {a b : Nat} {S : GS} (hM : MoS Γ σ) (hS : SW pt cs) (hp : ∀ f, f < 8 → σ.1 393 f = pt (200 + f)) (hR : Rt σ T none) (hW : WF pt T none) (ha : a < tN T) (hb : b < tN T) (h8 : kd T b = 8) (h34 : kd T a = 3 ∨ kd T a = 4) (hbel : isBel T b a = true) (hQ : ∀ τ, FrI gnS σ τ → (∀ j, gnF j → τ.1 391 j = σ.1 391 j) → (tG (tGen (sgP pt) T b a S).2 = true → gW τ) → (tG (tGen (sgP pt) T b a S).2 = false → Rt τ (tGen (sgP pt) T b a S).2 none) → Q none Γ τ) (h0 : ¬ (tmn T a).getD 0 (-1) = (tmn T b).getD 0 (-1)) : Ct G M_Mo_generalise (d + 4) 0 0 [rf G 391, .int (nI b), .int (nI a)] Γ σ Q := by
  have hM0 := hM
  have hP := hS.ok.1
  have hN48 := hW.1.1
  have htw0 := hR.twT hW hS hp ha hb
  have hla : (tmn T a).length ≤ 40 := (hW.1.2.2 a ha).1
  have hlb : (tmn T b).length ≤ 40 := (hW.1.2.2 b hb).1
  have hV100 := hW.1.2.1
  have hta := (hW.2.2 a ha).1.1
  have htb := (hW.2.2 b hb).1.1
  have ea : (ntm (tD T a)).take 40 = tmn T a := hW.t40 ha
  have eb : (ntm (tD T b)).take 40 = tmn T b := hW.t40 hb
  obtain ⟨zu, hzu⟩ : ∃ z, z = tmn T a := ⟨_, rfl⟩
  obtain ⟨zl, hzl⟩ : ∃ z, z = tmn T b := ⟨_, rfl⟩
  obtain ⟨V0, hV0⟩ : ∃ v, v = tV T := ⟨_, rfl⟩
  have htw := htw0
  rw [← hzu, ← hzl] at htw
  rw [← hzu] at hla
  rw [← hzl] at hlb
  have hz0 : 0 < zl.length := full_ne htw.2.2.2.2.2.2.1
  have hz1 : 0 < zu.length := full_ne htw.2.2.2.2.2.1
  have hR14 : σ.1 391 14 = nI V0 := by rw [hV0]; exact hR.2.2.1
  obtain ⟨T2, hT2d⟩ : ∃ t, t = (tGen (sgP pt) T b a S).2 := ⟨_, rfl⟩
  rw [← hT2d] at hQ
  obtain ⟨s1, e1, ok1, _, _⟩ := htw.2.2.2.2.2.2.2.1.getD hz1
  obtain ⟨s2, e2, ok2, _, _⟩ := htw.2.2.2.2.2.2.2.2.getD hz0
  have hs1 := ok1.le
  have hs2 := ok2.le
  rw [← hzu, ← hzl] at h0
  obtain ⟨prt, hprt⟩ : ∃ p, nP (sgP pt) (zl.getD 0 (-1)) = p := ⟨_, rfl⟩
  obtain ⟨RR, hRRd⟩ : ∃ r, r = tApart (sgP pt) zl prt 1 (gAdd (gZ S) (zl.getD 0 (-1))) T := ⟨_, rfl⟩
  have hDD : tD RR.2 = tD T ∧ tN RR.2 = tN T := by rw [hRRd]; exact tApart_o
  have hzal : al (gA pt V0) zl := by rw [hzl, hV0]; exact htb.2
  obtain ⟨m', em, f1, _⟩ := full_step (l := zl) (i := 0) (m := 1) htw.2.2.2.2.2.2.1 hz0
  obtain rfl : m' = 0 := by omega
  rw [Nat.zero_add, hprt] at f1
  have hple := full_le f1
  rw [List.length_drop] at hple
  have hend : ends (sgP pt) zl 1 prt = zl.length := by
    rw [ends_tk hP (by omega), tk_full f1, List.length_drop]; omega
  have hspec : tG RR.2 = false → WF pt RR.2 none ∧ CI (nP (sgP pt)) V0 zl zl 0 RR.1 RR.2 ∧ gC RR.1 ≤ 40 ∧ (gL RR.1).length ≤ 40 := fun z => by
    rw [hRRd] at z ⊢
    refine tApart_spec (h := none) (V0 := V0) hS hlb (k := prt) (pl := 1) (S := gAdd (gZ S) (zl.getD 0 (-1))) (T := T) f1 (by show 0 + prt ≤ 40; omega) (Nat.le_refl _) (Nat.le_refl _) hz0 ⟨fun r hr => ?_, hV0.symm, fun z => absurd z (Nat.lt_irrefl 0), fun s hs => ?_, fun k hk => absurd hk (Nat.not_lt_zero _)⟩ hW z
    · show full _ (0 + nP (sgP pt) (zl.getD 0 (-1))) r = true
      rw [Nat.zero_add, hprt]; exact hr
    · have : s = zl.getD 0 (-1) := List.mem_singleton.mp hs
      rw [this]
      exact Or.inl ⟨getD_mem hz0, getD_mem hz0⟩
  obtain ⟨hA1, hA2, hA3, hA4, hA5⟩ := tApart_sh (P := sgP pt) (zs := zl) (k := prt) (pl := 1) (S := gAdd (gZ S) (zl.getD 0 (-1))) (T := T) (by show 0 + prt ≤ 40; omega) hV100
  rw [← hRRd, ← hV0] at hA4 hA5
  rw [← hRRd] at hA1 hA2 hA3
  have hLn : (gL RR.1).length = prt + 1 := by rw [hRRd]; exact (apart_len (by show 0 + prt ≤ 40; omega)).trans (Nat.add_comm _ _)
  have hSB : ∀ k, k < gC RR.1 → (false = true → gU RR.1 k < zu.length) ∧ gD RR.1 k < zl.length := fun k hk => by
    rw [hA1] at hk
    have hk' : k < prt := by have : gC (gAdd (gZ S) (zl.getD 0 (-1))) = 0 := rfl; omega
    have h3 := hA3 k hk'
    rw [show gC (gAdd (gZ S) (zl.getD 0 (-1))) + k = k by show 0 + k = k; omega] at h3
    have g2 := ends_lt hP (show zl.length ≤ 10000 by omega) hz0 htw.2.2.2.2.2.2.1 (show k < nP (sgP pt) (zl.getD 0 (-1)) by rw [hprt]; omega)
    rw [Nat.zero_add] at g2
    exact ⟨fun z => (by cases z), by rw [h3]; exact g2.1⟩
  have hT2e : T2 = tLet (sgP pt) RR.2 b RR.1 (gD RR.1) := by
    rw [hT2d, tGen, ea, eb, ← hzu, ← hzl, if_neg h0, hprt, ← hRRd]
  have tl : ∀ (S1 : GS) (T1 : TS) (τ : Mem) (x4 x5 x7 : Option Value), FrI [391, 422, 423, 424] σ τ → (∀ j, j ≠ 12 → j ≠ 14 → j ≠ 38 → j ≠ 40 → τ.1 391 j = σ.1 391 j) → GI τ a b V0 zu zl false S1 T1 → (tD T1 = tD T ∧ tN T1 = tN T) → (tG T1 = false → WF pt T1 none ∧ CI (nP (sgP pt)) V0 zl zl 0 S1 T1 ∧ gC S1 ≤ 40 ∧ (gL S1).length ≤ 40) → (gC S1 ≤ 40) → T2 = tLet (sgP pt) T1 b S1 (gD S1) → (tG T1 = true → tG (tLet (sgP pt) T1 b S1 (gD S1)) = true) → Wq G M_Mo_generalise (Em G (d + 4) 0 0 Q) 0 0 273 [some (rf G 391), some (.int (nI b)), some (.int (nI a)), some (.int (nI V0)), x4, x5, some (.int (bI true)), x7] [] [] Γ τ := by
    intro S1 T1 τ x4 x5 x7 f0 h0j hG hD1 hsp hgc40 hT20 hgT
    have hM := hM0.fr f0
    have hN48 := hW.1.1
    first | refine x_aload_n d_Mo_generalise_273 rfl rfl ?_ | refine x_aloadN_n d_Mo_generalise_273 rfl rfl ?_ | refine x_aloadE_n d_Mo_generalise_273 rfl rfl ?_ | refine x_aloadO_n d_Mo_generalise_273 rfl rfl ?_
    refine x_getI d_Mo_generalise_274 f_Mo_177 rfl (by first | exact hM.1 | exact hM.s rfl | assumption) ?_
    rw [hG.2.2.2.2.1]
    refine x_if_eq (tgt := 281) d_Mo_generalise_277 (by decide) (fun c277 => ?_) (fun c277 => ?_)
    · have hgf : tG T1 = false := bI_0 c277
      obtain ⟨hW1, hCI, hc1, hl1⟩ := hsp hgf
      have hzu1 : al (gA pt V0) zl := hzal
      have hR1 : Rt τ T1 none := hR.new hD1.1 hD1.2 (fun x y z => f0.2 x (by simp; omega)) (by rw [hG.2.2.2.2.1, hgf]; rfl) (h0j 13 (by decide) (by decide) (by decide) (by decide)) (by rw [hG.2.2.2.1, (hG.2.2.2.2.2.2.1 hgf).1])
      have j321 : ∀ (lo : Bool) (x : Int32) (τ2 : Mem), x = bI lo → FrI gnS σ τ2 → (∀ j, gnF j → τ2.1 391 j = σ.1 391 j) → GI τ2 a b V0 zu zl (!true) S1 T1 → Rt τ2 T1 none → (lo = false → true ≠ true) → T2 = (if lo = true then tLet (sgP pt) T1 b S1 (gD S1) else tLet (sgP pt) (tRm T1 a) a S1 (gU S1)) → Wq G M_Mo_generalise (Em G (d + 4) 0 0 Q) 0 0 321 [some (rf G 391), some (.int (nI b)), some (.int (nI a)), some (.int (nI V0)), x4, x5, some (.int (bI true)), x7] [] [.int x] Γ τ2 := by
        intro lo x τ2 hx f02 h02 hG2 hR2 hlo hT2
        subst hx
        obtain ⟨g1, g2, g3, g4, g5, g6, g7, g8⟩ := id hG2
        have hM := hM0.fr f02
        have eN1 : tN T1 = tN T := hD1.2
        have ek1 : ∀ k, kd T1 k = kd T k := fun k => by unfold kd; rw [hD1.1]
        have et1 : ∀ k, tmn T1 k = tmn T k := fun k => by unfold tmn; rw [hD1.1]
        have hN48 := hW.1.1
        have hw45 := (hW.2.2 b hb).1.2.2.2.2.1 h8
        have hCb : Ch T1 b (tN T1) 0 := by
          refine ⟨by omega, by omega, ?_, ?_, fun i hi => absurd hi (Nat.not_lt_zero _)⟩
          · unfold lkn; rw [hD1.1]; exact hw45.1
          · unfold lkn; rw [hD1.1]; exact hw45.2
        cases lo with
        | true =>
          rw [if_pos rfl] at hT2
          refine x_istore d_Mo_generalise_321 rfl ?_
          refine x_iload d_Mo_generalise_323 rfl ?_
          refine x_if_ne (tgt := 333) d_Mo_generalise_325 (by decide) (fun c325 => ?_) (fun c325 => ?_)
          · first | refine x_aload_n d_Mo_generalise_333 rfl rfl ?_ | refine x_aloadN_n d_Mo_generalise_333 rfl rfl ?_ | refine x_aloadE_n d_Mo_generalise_333 rfl rfl ?_ | refine x_aloadO_n d_Mo_generalise_333 rfl rfl ?_
            refine x_iload d_Mo_generalise_334 rfl ?_
            refine x_if_eq (tgt := 343) d_Mo_generalise_336 (by decide) (fun c336 => ?_) (fun c336 => ?_)
            · exact absurd c336 (by decide)
            · refine x_iload_n d_Mo_generalise_339 rfl rfl ?_
              refine x_goto (tgt := 344) d_Mo_generalise_340 (by decide) ?_
              refine x_bipush (v := 7) d_Mo_generalise_344 (by decide) ?_
              refine x_callV2 d_Mo_generalise_346 k_Mo_becomes l_Mo_201 v_Mo_becomes rfl s_Mo_becomes (by first | exact hM.1 | exact hM.s rfl | assumption) RoomE.m (Nat.le_of_ble_eq_true rfl) (c_Mo_becomes hM (show b < 48 by omega) ?_)
              first | refine x_aload_n d_Mo_generalise_349 rfl rfl ?_ | refine x_aloadN_n d_Mo_generalise_349 rfl rfl ?_ | refine x_aloadE_n d_Mo_generalise_349 rfl rfl ?_ | refine x_aloadO_n d_Mo_generalise_349 rfl rfl ?_
              refine x_iload d_Mo_generalise_350 rfl ?_
              refine x_if_eq (tgt := 359) d_Mo_generalise_352 (by decide) (fun c352 => ?_) (fun c352 => ?_)
              · exact absurd c352 (by decide)
              · refine x_iload_n d_Mo_generalise_355 rfl rfl ?_
                refine x_goto (tgt := 360) d_Mo_generalise_356 (by decide) ?_
                refine x_iload_n d_Mo_generalise_360 rfl rfl ?_
                refine x_iload d_Mo_generalise_361 rfl ?_
                refine x_if_eq (tgt := 373) d_Mo_generalise_363 (by decide) (fun c363 => ?_) (fun c363 => ?_)
                · exact absurd c363 (by decide)
                · first | refine x_aload_n d_Mo_generalise_366 rfl rfl ?_ | refine x_aloadN_n d_Mo_generalise_366 rfl rfl ?_ | refine x_aloadE_n d_Mo_generalise_366 rfl rfl ?_ | refine x_aloadO_n d_Mo_generalise_366 rfl rfl ?_
                  refine x_getR d_Mo_generalise_367 f_Mo_107 rfl (by first | exact hM.1 | exact hM.s rfl | assumption) (hM.r rfl) ?_
                  refine x_goto (tgt := 377) d_Mo_generalise_370 (by decide) ?_
                  refine x_callV3 d_Mo_generalise_377 k_Mo_let l_Mo_233 v_Mo_let rfl s_Mo_let (by first | exact hM.1 | exact hM.s rfl | assumption) RoomE.m (Nat.le_of_ble_eq_true rfl) (c_Mo_let (σ0 := τ2) (cp := 424) (zu := zl) (zl := zl) ((hM.w (a := 400) (j := b) (v := 7)).w (a := 405) (j := b) (v := τ2.1 391 13)) rfl hS (fun f hf => by rw [f02.2 393 (by simp [gnS])]; exact hp f hf) hR2.hole hW1.hole (by rw [eN1]; exact hb) hCb (fun m hm hmb h6 => hW1.noU (by rw [ek1]; exact h8) m hm hmb h6) hCI hzu1 hc1 hl1 (st := gD S1) (fun i hi => by rw [et1, ← hzl]; exact (hCI.2.2.2.2 i hi).2) (hM.s rfl) (Or.inr rfl) (by rw [wI_o (by decide), wI_o (by decide)]; exact g1) (by rw [wI_o (by decide), wI_o (by decide)]; exact g2) (fun i hi => by rw [wI_o (by decide), wI_o (by decide)]; exact (g7 hgf).2.2 i hi) (fun k hk => by rw [wI_o (by decide), wI_o (by decide)]; exact (g3 k hk).2) (fun τ4 f4 o4 q1 q2 => ?_))
                  exact x_return d_Mo_generalise_380 rfl (hQ τ4 (((f02.put (by simp [gnS])).put (by simp [gnS])).tr (f4.mono (by simp [gnS]))) (fun j hj => by rw [o4 j hj.1 hj.2.1, wI_o (by decide), wI_o (by decide)]; exact h02 j hj) (by rw [hT2]; exact q1) (by rw [hT2]; exact q2))
          · exact absurd c325 (by decide)
        | false =>
          rw [if_neg (by decide)] at hT2
          exact absurd rfl (hlo rfl)
      refine x_iload d_Mo_generalise_281 rfl ?_
      refine x_if_ne (tgt := 316) d_Mo_generalise_283 (by decide) (fun c283 => ?_) (fun c283 => ?_)
      · refine x_iconst (v := 1) d_Mo_generalise_316 (by decide) ?_
        refine x_goto (tgt := 321) d_Mo_generalise_317 (by decide) ?_
        exact j321 true 1 τ rfl (f0.mono (by simp [gnS])) (fun j hj => h0j j hj.1 hj.2.2.1 hj.2.2.2.1 hj.2.2.2.2) hG hR1 (fun z => by cases z) (by rw [if_pos rfl]; exact hT20)
      · exact absurd c283 (by decide)
    · exact x_return d_Mo_generalise_280 rfl (hQ τ (f0.mono (by simp [gnS])) (fun j hj => h0j j hj.1 hj.2.2.1 hj.2.2.2.1 hj.2.2.2.2) (fun _ => ⟨by rw [hG.2.2.2.2.1, bI_n0 c277]; rfl, (hR.gw hW).cg (f0.2 400 (by simp)) (f0.2 402 (by simp)) (f0.2 403 (by simp)) (h0j 13 (by decide) (by decide) (by decide) (by decide))⟩) (fun z => by
        have : tG T2 = true := by rw [hT20]; exact hgT (bI_n0 c277)
        rw [this] at z; cases z))
  have lp : ∀ (w k : Nat) (τ : Mem), k ≤ prt → prt < k + w → FrI [391, 422, 424] σ τ → (∀ j, j ≠ 38 → j ≠ 40 → τ.1 391 j = σ.1 391 j) → τ.1 391 40 = nI k → τ.1 391 38 = nI (k + 1) → (∀ q, q < k → τ.1 424 q = nI (40 * b + ends (sgP pt) zl 1 q)) → seg τ 422 0 ([zl.getD 0 (-1)] ++ (List.range k).map (fun i => nI (V0 + i))) → Wq G M_Mo_generalise (Em G (d + 4) 0 0 Q) 0 0 80 [some (rf G 391), some (.int (nI b)), some (.int (nI a)), some (.int (nI V0)), some (.int (nI (40 * a))), some (.int (nI (40 * b))), some (.int (bI true)), some (.int (nI (40 * b + ends (sgP pt) zl 1 k)))] [] [] Γ τ := by
    intro w
    induction w with
    | zero => intro k τ h1 h2; omega
    | succ w ih =>
    intro k τ hkle hkw f0 h0j hpr hcs hlo hcm
    have hele : ends (sgP pt) zl 1 k ≤ zl.length := ends_le hz0 k
    have hM := hM0.fr f0
    have htw1 := htw.fr f0 (by simp) (by simp) (by simp)
    refine x_iload d_Mo_generalise_80 rfl ?_
    refine x_iload d_Mo_generalise_82 rfl ?_
    first | refine x_aload_n d_Mo_generalise_84 rfl rfl ?_ | refine x_aloadN_n d_Mo_generalise_84 rfl rfl ?_ | refine x_aloadE_n d_Mo_generalise_84 rfl rfl ?_ | refine x_aloadO_n d_Mo_generalise_84 rfl rfl ?_
    refine x_getR d_Mo_generalise_85 f_Mo_44 rfl (by first | exact hM.1 | exact hM.s rfl | assumption) (hM.r rfl) ?_
    refine x_iload_n d_Mo_generalise_88 rfl rfl ?_
    refine x_iald d_Mo_generalise_89 (by first | exact hM.1 | exact hM.s rfl | assumption) (vp_in_nI (show b < 48 by omega) (by decide)) ?_
    rw [nI_clamp (by omega), f0.2 403 (by simp), (hR.2.2.2 b hb).1.2.2.1.1, ← hzl]
    refine x_iadd d_Mo_generalise_90 ?_
    rw [nI_add]
    refine x_icmp_ge (tgt := 155) d_Mo_generalise_91 (by decide) (fun c91 => ?_) (fun c91 => ?_)
    · have hk : k = prt := by
        have hge : zl.length ≤ ends (sgP pt) zl 1 k := by have := (nI_leI (by omega) (by omega)).mp c91; omega
        by_cases z : k = prt
        · exact z
        · exfalso
          have g2 := ends_lt hP (show zl.length ≤ 10000 by omega) hz0 htw.2.2.2.2.2.2.1 (show k < nP (sgP pt) (zl.getD 0 (-1)) by rw [hprt]; omega)
          rw [Nat.zero_add] at g2
          omega
      subst hk
      first | refine x_aload_n d_Mo_generalise_155 rfl rfl ?_ | refine x_aloadN_n d_Mo_generalise_155 rfl rfl ?_ | refine x_aloadE_n d_Mo_generalise_155 rfl rfl ?_ | refine x_aloadO_n d_Mo_generalise_155 rfl rfl ?_
      first | refine x_aload_n d_Mo_generalise_156 rfl rfl ?_ | refine x_aloadN_n d_Mo_generalise_156 rfl rfl ?_ | refine x_aloadE_n d_Mo_generalise_156 rfl rfl ?_ | refine x_aloadO_n d_Mo_generalise_156 rfl rfl ?_
      refine x_getI d_Mo_generalise_157 f_Mo_216 rfl (by first | exact hM.1 | exact hM.s rfl | assumption) ?_
      rw [hpr]
      refine x_callV1 d_Mo_generalise_160 k_Mo_renew l_Mo_209 v_Mo_renew rfl s_Mo_renew (by first | exact hM.1 | exact hM.s rfl | assumption) RoomE.m (Nat.le_of_ble_eq_true rfl) (c_Mo_renew (n := k) (v := V0) (g := false) hM (by rw [h0j 14 (by decide) (by decide)]; exact hR14) (by rw [h0j 12 (by decide) (by decide), hR.1]; rfl) (by omega) (by have := hW.1.2.1; omega) ?_)
      refine x_pop d_Mo_generalise_163 rfl ?_
      refine x_iload d_Mo_generalise_164 rfl ?_
      refine x_if_ne (tgt := 273) d_Mo_generalise_166 (by decide) (fun c166 => ?_) (fun c166 => absurd c166 (by decide))
      refine Wq.fg (tl RR.1 RR.2 _ (some (.int (nI (40 * a)))) (some (.int (nI (40 * b)))) none (((f0.mono (by simp)).put (by simp)).put (by simp)) (fun q a1 a2 a3 a4 => by rw [wI_j a1, wI_j a2]; exact h0j q a3 a4) ?_ hDD hspec (by rw [hA1]; show 0 + k ≤ 40; omega) hT2e (fun z => tLet_G z)) ⟨rfl, rfl, rfl, rfl, rfl, rfl, rfl, lsub_rf⟩
      have hC : gC RR.1 = k := by rw [hA1]; show 0 + k = k; omega
      refine ⟨?_, ?_, fun q hq => ⟨fun z => (by cases z), ?_⟩, ?_, ?_, ?_, fun hg => ?_, ?_⟩
      · rw [hC, wI_j (by decide), wI_j (by decide)]; exact hpr
      · rw [wI_j (by decide), wI_j (by decide), hcs, hLn]
      · rw [wI_o (by decide), wI_o (by decide), hlo q (by omega)]
        have := hA3 q (by omega)
        rw [show gC (gAdd (gZ S) (zl.getD 0 (-1))) + q = q by show 0 + q = q; omega] at this
        rw [this]
      · rw [hC, wI_j (by decide), wI_s]
      · rw [wI_s, Bool.false_or]
        congr 1
        by_cases z : 100 < V0 + k
        · rw [decide_eq_true z, hA5 z]
        · rw [decide_eq_false z, (hA4 hW.2.1 (by omega)).1]
      · rw [hC]
        by_cases z : 100 < V0 + k
        · rw [decide_eq_true z, hA5 z]
        · rw [decide_eq_false z, (hA4 hW.2.1 (by omega)).1]
      · have hle : V0 + k ≤ 100 := Nat.not_lt.mp fun z => by rw [hA5 z] at hg; cases hg
        obtain ⟨y1, y2, y3⟩ := hA4 hW.2.1 hle
        obtain ⟨_, hCI, _, _⟩ := hspec hg
        refine ⟨by rw [hC]; exact y2, hCI.2.2.1, ?_⟩
        rw [y3]
        intro q hq
        rw [wI_o (by decide), wI_o (by decide)]
        exact hcm q hq
      · exact hSB
    · have hlt : ends (sgP pt) zl 1 k < zl.length := by
        have : ¬ 40 * b + zl.length ≤ 40 * b + ends (sgP pt) zl 1 k := fun z => c91 (nI_le z (by omega))
        omega
      have hkp : k < prt := by
        by_cases z : k < prt
        · exact z
        · exfalso
          have e : k = prt := by omega
          rw [e, hend] at hlt
          omega
      obtain ⟨m2, hm2⟩ := full_sfx htw1.2.2.2.2.2.2.1 hlt
      first | refine x_aload_n d_Mo_generalise_94 rfl rfl ?_ | refine x_aloadN_n d_Mo_generalise_94 rfl rfl ?_ | refine x_aloadE_n d_Mo_generalise_94 rfl rfl ?_ | refine x_aloadO_n d_Mo_generalise_94 rfl rfl ?_
      refine x_getR d_Mo_generalise_95 f_Mo_107 rfl (by first | exact hM.1 | exact hM.s rfl | assumption) (hM.r rfl) ?_
      first | refine x_aload_n d_Mo_generalise_98 rfl rfl ?_ | refine x_aloadN_n d_Mo_generalise_98 rfl rfl ?_ | refine x_aloadE_n d_Mo_generalise_98 rfl rfl ?_ | refine x_aloadO_n d_Mo_generalise_98 rfl rfl ?_
      refine x_getI d_Mo_generalise_99 f_Mo_216 rfl (by first | exact hM.1 | exact hM.s rfl | assumption) ?_
      rw [hpr]
      refine x_iload d_Mo_generalise_102 rfl ?_
      refine x_iast d_Mo_generalise_104 (by first | exact hM.1 | exact hM.s rfl | assumption) (vp_in_nI (show k < 40 by omega) (by decide)) ?_
      rw [nI_clamp (by omega)]
      first | refine x_aload_n d_Mo_generalise_105 rfl rfl ?_ | refine x_aloadN_n d_Mo_generalise_105 rfl rfl ?_ | refine x_aloadE_n d_Mo_generalise_105 rfl rfl ?_ | refine x_aloadO_n d_Mo_generalise_105 rfl rfl ?_
      refine x_getR d_Mo_generalise_106 f_Mo_101 rfl (by first | exact hM.1 | exact hM.s rfl | assumption) (hM.r rfl) ?_
      first | refine x_aload_n d_Mo_generalise_109 rfl rfl ?_ | refine x_aloadN_n d_Mo_generalise_109 rfl rfl ?_ | refine x_aloadE_n d_Mo_generalise_109 rfl rfl ?_ | refine x_aloadO_n d_Mo_generalise_109 rfl rfl ?_
      refine x_getI d_Mo_generalise_110 f_Mo_223 rfl (by first | exact hM.1 | exact hM.s rfl | assumption) ?_
      rw [wI_o (by decide), hcs]
      refine x_iload_n d_Mo_generalise_113 rfl rfl ?_
      first | refine x_aload_n d_Mo_generalise_114 rfl rfl ?_ | refine x_aloadN_n d_Mo_generalise_114 rfl rfl ?_ | refine x_aloadE_n d_Mo_generalise_114 rfl rfl ?_ | refine x_aloadO_n d_Mo_generalise_114 rfl rfl ?_
      refine x_getI d_Mo_generalise_115 f_Mo_216 rfl (by first | exact hM.1 | exact hM.s rfl | assumption) ?_
      rw [wI_o (by decide), hpr]
      refine x_iadd d_Mo_generalise_118 ?_
      rw [nI_add]
      refine x_iast d_Mo_generalise_119 (by first | exact hM.1 | exact hM.s rfl | assumption) (vp_in_nI (show k + 1 < 40 by omega) (by decide)) ?_
      rw [nI_clamp (by omega)]
      first | refine x_aload_n d_Mo_generalise_120 rfl rfl ?_ | refine x_aloadN_n d_Mo_generalise_120 rfl rfl ?_ | refine x_aloadE_n d_Mo_generalise_120 rfl rfl ?_ | refine x_aloadO_n d_Mo_generalise_120 rfl rfl ?_
      refine x_dup d_Mo_generalise_121 rfl ?_
      refine x_getI d_Mo_generalise_122 f_Mo_216 rfl (by first | exact hM.1 | exact hM.s rfl | assumption) ?_
      rw [wI_o (by decide), wI_o (by decide), hpr]
      refine x_iconst (v := 1) d_Mo_generalise_125 (by decide) ?_
      refine x_iadd d_Mo_generalise_126 ?_
      rw [nI_1]
      refine x_putI d_Mo_generalise_127 (w_Mo_m_216 _) rfl (by first | rfl | decide) (by first | rfl | decide) (by first | exact hM.1 | exact hM.s rfl | assumption) ?_
      first | refine x_aload_n d_Mo_generalise_130 rfl rfl ?_ | refine x_aloadN_n d_Mo_generalise_130 rfl rfl ?_ | refine x_aloadE_n d_Mo_generalise_130 rfl rfl ?_ | refine x_aloadO_n d_Mo_generalise_130 rfl rfl ?_
      refine x_dup d_Mo_generalise_131 rfl ?_
      refine x_getI d_Mo_generalise_132 f_Mo_223 rfl (by first | exact hM.1 | exact hM.s rfl | assumption) ?_
      rw [wI_j (by decide), wI_o (by decide), wI_o (by decide), hcs]
      refine x_iconst (v := 1) d_Mo_generalise_135 (by decide) ?_
      refine x_iadd d_Mo_generalise_136 ?_
      rw [nI_1]
      refine x_putI d_Mo_generalise_137 (w_Mo_m_223 _) rfl (by first | rfl | decide) (by first | rfl | decide) (by first | exact hM.1 | exact hM.s rfl | assumption) ?_
      have fr3 : FrI [391, 422, 424] τ (wI (wI (wI (wI τ 424 k (nI (40 * b + ends (sgP pt) zl 1 k))) 422 (k + 1) (nI (V0 + k))) 391 40 (nI (k + 1))) 391 38 (nI (k + 1 + 1))) := (((FrI.rf.put (by simp)).put (by simp)).put (by simp)).put (by simp)
      have hM3 := hM.fr fr3
      first | refine x_aload_n d_Mo_generalise_140 rfl rfl ?_ | refine x_aloadN_n d_Mo_generalise_140 rfl rfl ?_ | refine x_aloadE_n d_Mo_generalise_140 rfl rfl ?_ | refine x_aloadO_n d_Mo_generalise_140 rfl rfl ?_
      first | refine x_aload_n d_Mo_generalise_141 rfl rfl ?_ | refine x_aloadN_n d_Mo_generalise_141 rfl rfl ?_ | refine x_aloadE_n d_Mo_generalise_141 rfl rfl ?_ | refine x_aloadO_n d_Mo_generalise_141 rfl rfl ?_
      refine x_getR d_Mo_generalise_142 f_Mo_41 rfl (by first | exact hM.1 | exact hM.s rfl | assumption) (hM.r rfl) ?_
      refine x_iload d_Mo_generalise_145 rfl ?_
      refine x_callV2 d_Mo_generalise_147 k_Mo_end l_Mo_164 v_Mo_end rfl s_Mo_end (by first | exact hM.1 | exact hM.s rfl | assumption) RoomE.m (Nat.le_of_ble_eq_true rfl) (c_Mo_end (i := ends (sgP pt) zl 1 k) (m := m2) hM3 (hM.s rfl) (htw1.2.2.2.2.1.fr fr3 (by simp)) (by omega) (by decide) (htw1.2.2.2.2.2.2.2.2.fr fr3 (by simp) (by simp)) hm2 ?_)
      refine x_istore d_Mo_generalise_150 rfl ?_
      refine x_goto (tgt := 80) d_Mo_generalise_152 (by decide) ?_
      have e2 : ends (sgP pt) zl 1 (k + 1) = ends (sgP pt) zl 1 k + tk (nP (sgP pt)) 1 (zl.drop (ends (sgP pt) zl 1 k)) := behind_tk hP (by omega) _
      exact Wq.fg (ih (k + 1) _ (by omega) (by omega) ((f0.mono (by simp)).tr (fr3.mono (by simp))) (fun q a3 a4 => by rw [wI_j a3, wI_j a4, wI_o (by decide), wI_o (by decide)]; exact h0j q a3 a4) (by rw [wI_j (by decide), wI_s]) wI_s (fun q hq => by
        rw [wI_o (by decide), wI_o (by decide), wI_o (by decide)]
        by_cases e : q = k
        · rw [e, wI_s]
        · rw [wI_j e]; exact hlo q (by omega)) (by
        rw [List.range_succ, List.map_append, ← List.append_assoc]
        intro q hq
        rw [wI_o (by decide), wI_o (by decide)]
        refine seg_app (fun q hq => ?_) (by simp) q hq
        rw [wI_o (by decide)]
        exact hcm q hq)) ⟨rfl, rfl, rfl, rfl, rfl, rfl, rfl, by rw [e2, Nat.add_assoc], trivial⟩
  refine Ct.of (lv := [some (rf G 391), some (.int (nI b)), some (.int (nI a)), none, none, none, none, none]) (ll := []) rfl rfl (EN.cat (n := 5) ⟨rfl, rfl, rfl, trivial⟩ (Nat.le_of_ble_eq_true rfl)) ?_
  first | refine x_aload_n d_Mo_generalise_0 rfl rfl ?_ | refine x_aloadN_n d_Mo_generalise_0 rfl rfl ?_ | refine x_aloadE_n d_Mo_generalise_0 rfl rfl ?_ | refine x_aloadO_n d_Mo_generalise_0 rfl rfl ?_
  refine x_getI d_Mo_generalise_1 f_Mo_183 rfl (by first | exact hM.1 | exact hM.s rfl | assumption) ?_
  rw [hR14]
  refine x_istore_n d_Mo_generalise_4 rfl rfl ?_
  refine x_bipush (v := 40) d_Mo_generalise_5 (by decide) ?_
  refine x_iload_n d_Mo_generalise_7 rfl rfl ?_
  refine x_imul d_Mo_generalise_8 ?_
  rw [mul40]
  refine x_istore d_Mo_generalise_9 rfl ?_
  refine x_bipush (v := 40) d_Mo_generalise_11 (by decide) ?_
  refine x_iload_n d_Mo_generalise_13 rfl rfl ?_
  refine x_imul d_Mo_generalise_14 ?_
  rw [mul40]
  refine x_istore d_Mo_generalise_15 rfl ?_
  first | refine x_aload_n d_Mo_generalise_17 rfl rfl ?_ | refine x_aloadN_n d_Mo_generalise_17 rfl rfl ?_ | refine x_aloadE_n d_Mo_generalise_17 rfl rfl ?_ | refine x_aloadO_n d_Mo_generalise_17 rfl rfl ?_
  refine x_getR d_Mo_generalise_18 f_Mo_41 rfl (by first | exact hM.1 | exact hM.s rfl | assumption) (hM.r rfl) ?_
  refine x_iload d_Mo_generalise_21 rfl ?_
  refine Wq.top (y := nI (40 * a + 0)) rfl ?_
  refine x_iald d_Mo_generalise_23 (by first | exact hM.1 | exact hM.s rfl | assumption) (vp_in_nI (show 40 * a + 0 < 1920 by omega) (by decide)) ?_
  rw [nI_clamp (by omega), htw.2.2.2.1 0 hz1, e1]
  first | refine x_aload_n d_Mo_generalise_24 rfl rfl ?_ | refine x_aloadN_n d_Mo_generalise_24 rfl rfl ?_ | refine x_aloadE_n d_Mo_generalise_24 rfl rfl ?_ | refine x_aloadO_n d_Mo_generalise_24 rfl rfl ?_
  refine x_getR d_Mo_generalise_25 f_Mo_41 rfl (by first | exact hM.1 | exact hM.s rfl | assumption) (hM.r rfl) ?_
  refine x_iload d_Mo_generalise_28 rfl ?_
  refine Wq.top (y := nI (40 * b + 0)) rfl ?_
  refine x_iald d_Mo_generalise_30 (by first | exact hM.1 | exact hM.s rfl | assumption) (vp_in_nI (show 40 * b + 0 < 1920 by omega) (by decide)) ?_
  rw [nI_clamp (by omega), htw.2.2.2.2.1 0 hz0, e2]
  refine x_icmp_eq (tgt := 38) d_Mo_generalise_31 (by decide) (fun c31 => ?_) (fun c31 => ?_)
  · exact absurd (by rw [e1, e2]; exact c31) h0
  · refine x_iconst (v := 1) d_Mo_generalise_34 (by decide) ?_
    refine x_goto (tgt := 39) d_Mo_generalise_35 (by decide) ?_
    refine x_istore d_Mo_generalise_39 rfl ?_
    first | refine x_aload_n d_Mo_generalise_41 rfl rfl ?_ | refine x_aloadN_n d_Mo_generalise_41 rfl rfl ?_ | refine x_aloadE_n d_Mo_generalise_41 rfl rfl ?_ | refine x_aloadO_n d_Mo_generalise_41 rfl rfl ?_
    refine x_iconst (v := 0) d_Mo_generalise_42 (by decide) ?_
    refine x_putI d_Mo_generalise_43 (w_Mo_m_223 _) rfl (by first | rfl | decide) (by first | rfl | decide) (by first | exact hM.1 | exact hM.s rfl | assumption) ?_
    first | refine x_aload_n d_Mo_generalise_46 rfl rfl ?_ | refine x_aloadN_n d_Mo_generalise_46 rfl rfl ?_ | refine x_aloadE_n d_Mo_generalise_46 rfl rfl ?_ | refine x_aloadO_n d_Mo_generalise_46 rfl rfl ?_
    refine x_iconst (v := 0) d_Mo_generalise_47 (by decide) ?_
    refine x_putI d_Mo_generalise_48 (w_Mo_m_216 _) rfl (by first | rfl | decide) (by first | rfl | decide) (by first | exact hM.1 | exact hM.s rfl | assumption) ?_
    refine x_iload d_Mo_generalise_51 rfl ?_
    refine x_if_eq (tgt := 164) d_Mo_generalise_53 (by decide) (fun c53 => ?_) (fun c53 => ?_)
    · exact absurd c53 (by decide)
    · first | refine x_aload_n d_Mo_generalise_56 rfl rfl ?_ | refine x_aloadN_n d_Mo_generalise_56 rfl rfl ?_ | refine x_aloadE_n d_Mo_generalise_56 rfl rfl ?_ | refine x_aloadO_n d_Mo_generalise_56 rfl rfl ?_
      refine x_getR d_Mo_generalise_57 f_Mo_101 rfl (by first | exact hM.1 | exact hM.s rfl | assumption) (hM.r rfl) ?_
      refine x_iconst (v := 0) d_Mo_generalise_60 (by decide) ?_
      first | refine x_aload_n d_Mo_generalise_61 rfl rfl ?_ | refine x_aloadN_n d_Mo_generalise_61 rfl rfl ?_ | refine x_aloadE_n d_Mo_generalise_61 rfl rfl ?_ | refine x_aloadO_n d_Mo_generalise_61 rfl rfl ?_
      refine x_getR d_Mo_generalise_62 f_Mo_41 rfl (by first | exact hM.1 | exact hM.s rfl | assumption) (hM.r rfl) ?_
      refine x_iload d_Mo_generalise_65 rfl ?_
      refine Wq.top (y := nI (40 * b + 0)) rfl ?_
      refine x_iald d_Mo_generalise_67 (by first | exact hM.1 | exact hM.s rfl | assumption) (vp_in_nI (show 40 * b + 0 < 1920 by omega) (by decide)) ?_
      rw [nI_clamp (by omega), wI_o (by decide), wI_o (by decide), htw.2.2.2.2.1 0 hz0, e2, ← nI_0]
      refine x_iast d_Mo_generalise_68 (by first | exact hM.1 | exact hM.s rfl | assumption) (vp_in_nI (show 0 < 40 by decide) (by decide)) ?_
      rw [nI_clamp (by decide)]
      first | refine x_aload_n d_Mo_generalise_69 rfl rfl ?_ | refine x_aloadN_n d_Mo_generalise_69 rfl rfl ?_ | refine x_aloadE_n d_Mo_generalise_69 rfl rfl ?_ | refine x_aloadO_n d_Mo_generalise_69 rfl rfl ?_
      refine x_iconst (v := 1) d_Mo_generalise_70 (by decide) ?_
      refine x_putI d_Mo_generalise_71 (w_Mo_m_223 _) rfl (by first | rfl | decide) (by first | rfl | decide) (by first | exact hM.1 | exact hM.s rfl | assumption) ?_
      refine x_iload d_Mo_generalise_74 rfl ?_
      refine x_iconst (v := 1) d_Mo_generalise_76 (by decide) ?_
      refine x_iadd d_Mo_generalise_77 ?_
      rw [nI_1]
      refine x_istore d_Mo_generalise_78 rfl ?_
      exact Wq.fg (lp (prt + 1) 0 _ (by omega) (by omega) ((((FrI.rf.put (by simp)).put (by simp)).put (by simp)).put (by simp)) (fun q a3 a4 => by rw [wI_j a3, wI_o (by decide), wI_j a4, wI_j a3]) (by rw [wI_j (by decide), wI_o (by decide), wI_s, nI_0]) (by rw [wI_s]; rfl) (fun q hq => absurd hq (Nat.not_lt_zero _)) (by
        rw [List.range_zero, List.map_nil, List.append_nil, e2]
        intro q hq
        obtain rfl : q = 0 := by have : q < 1 := hq; omega
        rw [wI_o (by decide), Nat.zero_add, wI_s]; rfl)) ⟨rfl, rfl, rfl, rfl, rfl, rfl, rfl, rfl, trivial⟩
set_option maxRecDepth 10000 in
set_option maxHeartbeats 1000000 in
theorem c_Mo_generalise {G : Ctx} {d : Nat} {Γ : List Sh} {σ : Mem} {Q : Option Value → List Sh → Mem → Prop} {pt : Nat → Int32} {cs : Nat → Bool} {T : TS} {a b : Nat} {S : GS} (hM : MoS Γ σ) (hS : SW pt cs) (hp : ∀ f, f < 8 → σ.1 393 f = pt (200 + f)) (hR : Rt σ T none) (hW : WF pt T none) (ha : a < tN T) (hb : b < tN T) (h8 : kd T b = 8) (h34 : kd T a = 3 ∨ kd T a = 4) (hbel : isBel T b a = true) (hQ : ∀ τ, FrI gnS σ τ → (∀ j, gnF j → τ.1 391 j = σ.1 391 j) → (tG (tGen (sgP pt) T b a S).2 = true → gW τ) → (tG (tGen (sgP pt) T b a S).2 = false → Rt τ (tGen (sgP pt) T b a S).2 none) → Q none Γ τ) : Ct G M_Mo_generalise (d + 4) 0 0 [rf G 391, .int (nI b), .int (nI a)] Γ σ Q := by
  by_cases h0 : (tmn T a).getD 0 (-1) = (tmn T b).getD 0 (-1)
  · exact c_Mo_generalise_c hM hS hp hR hW ha hb h8 h34 hbel hQ h0
  · exact c_Mo_generalise_o hM hS hp hR hW ha hb h8 h34 hbel hQ h0
