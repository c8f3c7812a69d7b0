/-! SuperDriverModel: goBelow -/
theorem oI_lt {o : Option Nat} {a : Nat} (ha : a < 1000) (ho : ∀ u, o = some u → u < 1000) : (nI a < oI o ↔ ∃ u, o = some u ∧ a < u) ∧ (oI o = nI a ↔ o = some a) := by
  cases o with
  | none =>
    refine ⟨⟨fun z => absurd z ?_, fun ⟨u, e, _⟩ => by cases e⟩, ⟨fun z => absurd z.symm (nI_nm1 (by omega)), fun z => by cases z⟩⟩
    intro z
    have := Int32.lt_iff_toInt_lt.mp z
    rw [nI_toInt (by omega)] at this
    have q : (oI none).toInt = -1 := by decide
    omega
  | some u =>
    have hu := ho u rfl
    refine ⟨⟨fun z => ⟨u, rfl, (nI_ltI (by omega) (by omega)).mp z⟩, fun ⟨w, e, h⟩ => by cases e; exact nI_lt h (by omega)⟩, ⟨fun z => by rw [nI_inj z (by omega) (by omega)], fun z => by cases z; rfl⟩⟩
theorem tBel_no {T : TS} {top N : Nat} (hA : ∀ k, k < N → ∀ m, lkn T k 3 = some m → m < k) {f : Nat} {o : Option Nat} (ho : ∀ u, o = some u → u < N) (h : ∀ u, o = some u → u < top) : tBel T top f o = false := by
  cases e : tBel T top f o with
  | false => rfl
  | true =>
    obtain ⟨u, hu, hl⟩ := tBel_lt hA ho e
    have := h u hu
    omega
/-- what the removal does to the arrays -/
theorem Rt.rm {pt : Nat → Int32} {σ σ' : Mem} {T : TS} {a : Nat} (hR : Rt σ T none) (hW : WF pt T none) (ha : a < tN T) (hf : FrI [400] σ σ') (hk : ∀ k, k < tN T → σ'.1 400 k = if a < k ∧ isBel T k a = true then 0 else σ.1 400 k) : Rt σ' (tRm T a) (some a) := by
  have hA := hW.1.AW
  have hd := fun k (hk : k < tN T) => tRm_d (T := T) (top := a) (k := k) hA ha hk
  have hN : tN (tRm T a) = tN T := (tRm_o (q := 0)).2
  have hV : tV (tRm T a) = tV T := by
    have : ∀ f n (T : TS), tV (tRmL a f n T) = tV T := fun f => by
      induction f with
      | zero => intro n T; rfl
      | succ f ih => intro n T; show tV (tRmL a f (n + 1) (tRm1 T a n)) = _; rw [ih]; unfold tRm1; split <;> rfl
    exact this _ _ _
  have ht : ∀ k, tmn (tRm T a) k = tmn T k := fun k => (tRm_o (q := k)).1
  have h391 : σ'.1 391 = σ.1 391 := hf.2 391 (by simp)
  have hl : ∀ k j, k < tN T → j = 3 ∨ j = 6 → lkn (tRm T a) k j = lkn T k j := fun k j hk hj => by
    unfold lkn
    rw [hd k hk]
    split
    · next z =>
      subst z
      rcases hj with hj | hj <;> (subst hj; rfl)
    · split
      · rcases hj with hj | hj <;> (subst hj; rfl)
      · rfl
  refine ⟨by rw [h391]; exact hR.1, by rw [h391, hN]; exact hR.2.1, by rw [h391, hV]; exact hR.2.2.1, fun k hk' => ?_⟩
  rw [hN] at hk'
  obtain ⟨⟨r1, r2, r3, r4, r5⟩, r7⟩ := hR.2.2.2 k hk'
  have r7 := r7 (fun z => by cases z)
  have hkk := hk k hk'
  by_cases e : k = a
  · subst e
    have hs : tD (tRm T k) k = nDrop (tD T k) := by rw [hd k hk', if_pos rfl]
    have ekd : kd (tRm T k) k = kd T k := by unfold kd; rw [hs]; rfl
    rw [if_neg (fun z => by omega)] at hkk
    exact ⟨⟨by rw [hkk, ekd]; exact r1, by rw [hf.2 401 (by simp), hl k 3 hk' (Or.inl rfl)]; exact r2, ⟨by rw [hf.2 403 (by simp), ht]; exact r3.1, by rw [ht]; exact r3.2.fr hf (by simp)⟩, by rw [ekd, hf.2 404 (by simp), show dt (tRm T k) k = dt T k by unfold dt; rw [hs]; rfl]; exact r4, by rw [ekd, hf.2 406 (by simp)]; exact r5⟩, fun z => absurd rfl z⟩
  · by_cases hb : isBel T k a = true
    · have hlt := isBel_lt hA hk' hb
      have hs : tD (tRm T a) k = nBecome (tD T k) 0 (-1) := by rw [hd k hk', if_neg e, if_pos hb]
      have ekd : kd (tRm T a) k = 0 := by unfold kd; rw [hs]; rfl
      rw [if_pos ⟨hlt, hb⟩] at hkk
      exact ⟨⟨by rw [hkk, ekd], by rw [hf.2 401 (by simp), hl k 3 hk' (Or.inl rfl)]; exact r2, ⟨by rw [hf.2 403 (by simp), ht]; exact r3.1, by rw [ht]; exact r3.2.fr hf (by simp)⟩, fun z => absurd ekd z, fun z => absurd (ekd.symm.trans z) (by decide)⟩, fun _ z => absurd z (by rw [ekd]; decide)⟩
    · have hs : tD (tRm T a) k = tD T k := by rw [hd k hk', if_neg e, if_neg hb]
      have ekd : kd (tRm T a) k = kd T k := by unfold kd; rw [hs]
      rw [if_neg (fun z => hb z.2)] at hkk
      refine ⟨⟨by rw [hkk, ekd]; exact r1, by rw [hf.2 401 (by simp), hl k 3 hk' (Or.inl rfl)]; exact r2, ⟨by rw [hf.2 403 (by simp), ht]; exact r3.1, by rw [ht]; exact r3.2.fr hf (by simp)⟩, by rw [ekd, hf.2 404 (by simp), show dt (tRm T a) k = dt T k by unfold dt; rw [hs]]; exact r4, by rw [ekd, hf.2 406 (by simp)]; exact r5⟩, fun _ => ?_⟩
      refine r7.tr ((hW.2.2 k hk').2.2 (fun z => by cases z)) (fun b c hbc => hbc.tr (by unfold lkn; rw [hs]) (by unfold lkn; rw [hs]) (fun j hj _ => ⟨hl j 3 hj (Or.inl rfl), hl j 6 hj (Or.inr rfl)⟩) (by rw [hN]; exact Nat.le_refl _)) ekd (by rw [hs]) (by rw [hf.2 405 (by simp)]) (by rw [hf.2 406 (by simp)]) (by rw [hf.2 407 (by simp)]) (fun j hj _ => ⟨by rw [hf.2 408 (by simp)], by rw [hf.2 409 (by simp)], ?_⟩)
      rw [hd j hj]
      split
      · next y => subst y; exact ⟨rfl, rfl⟩
      · split
        · exact ⟨rfl, rfl⟩
        · exact ⟨rfl, rfl⟩
set_option maxRecDepth 10000 in
set_option maxHeartbeats 1000000 in
theorem c_Mo_goBelow {G : Ctx} {d : Nat} {Γ : List Sh} {σ : Mem} {Q : Option Value → List Sh → Mem → Prop} {pt : Nat → Int32} {T : TS} {a : Nat} (hM : MoS Γ σ) (hR : Rt σ T none) (hW : WF pt T none) (ha : a < tN T) (hQ : ∀ τ, FrI [400] σ τ → (∀ k, k < tN T → τ.1 400 k = if a < k ∧ isBel T k a = true then 0 else σ.1 400 k) → Q none Γ τ) : Ct G M_Mo_goBelow d 0 0 [rf G 391, .int (nI a)] Γ σ Q := by
  have hA := hW.1.AW
  have hN48 := hW.1.1
  have lo : ∀ (g k : Nat) (τ : Mem) (x3 : Option Value), a < k ∧ k ≤ tN T → tN T < k + g → FrI [400] σ τ → (∀ j, j < tN T → τ.1 400 j = if a < j ∧ j < k ∧ isBel T j a = true then 0 else σ.1 400 j) → Wq G M_Mo_goBelow (Em G d 0 0 Q) 0 0 4 [some (rf G 391), some (.int (nI a)), some (.int (nI k)), x3] [] [] Γ τ := by
    intro g
    induction g with
    | zero => intro k τ x3 h1 h2; omega
    | succ g ih =>
    intro k τ x3 ⟨hak, hkle⟩ hkg f0 h1
    have hM := hM.fr f0
    refine x_iload_n d_Mo_goBelow_4 rfl rfl ?_
    first | refine x_aload_n d_Mo_goBelow_5 rfl rfl ?_ | refine x_aloadN_n d_Mo_goBelow_5 rfl rfl ?_ | refine x_aloadE_n d_Mo_goBelow_5 rfl rfl ?_ | refine x_aloadO_n d_Mo_goBelow_5 rfl rfl ?_
    refine x_getI d_Mo_goBelow_6 f_Mo_180 rfl (by first | exact hM.1 | exact hM.s rfl | assumption) ?_
    rw [f0.2 391 (by simp), hR.2.1]
    refine x_icmp_ge (tgt := 52) d_Mo_goBelow_9 (by decide) (fun c9 => ?_) (fun c9 => ?_)
    · have e : k = tN T := by have := (nI_leI (by omega) (by omega)).mp c9; omega
      exact x_return d_Mo_goBelow_52 rfl (hQ τ f0 (fun j hj => by
        rw [h1 j hj]
        by_cases y : a < j ∧ isBel T j a = true
        · rw [if_pos ⟨y.1, by omega, y.2⟩, if_pos y]
        · rw [if_neg (fun z => y ⟨z.1, z.2.2⟩), if_neg y]))
    · have hkN : k < tN T := Nat.not_le.mp fun z => c9 (nI_le z (by omega))
      have li : ∀ (f : Nat) (o : Option Nat), (∀ u, o = some u → u < f ∧ u < k) → tBel T a f o = isBel T k a → Wq G M_Mo_goBelow (Em G d 0 0 Q) 0 0 19 [some (rf G 391), some (.int (nI a)), some (.int (nI k)), some (.int (oI o))] [] [] Γ τ := by
        intro f
        induction f using Nat.strongRecOn with
        | ind f ihf0 =>
        intro o ho hbel
        have ihf : ∀ g, g < f → ∀ (o : Option Nat), (∀ u, o = some u → u < g ∧ u < k) → tBel T a g o = isBel T k a → Wq G M_Mo_goBelow (Em G d 0 0 Q) 0 0 19 [some (rf G 391), some (.int (nI a)), some (.int (nI k)), some (.int (oI o))] [] [] Γ τ := fun g hg => ihf0 g hg
        refine x_iload_n d_Mo_goBelow_19 rfl rfl ?_
        refine x_iload_n d_Mo_goBelow_20 rfl rfl ?_
        refine x_icmp_le (tgt := 34) d_Mo_goBelow_21 (by decide) (fun c21 => ?_) (fun c21 => ?_)
        · have hno : ¬ ∃ u, o = some u ∧ a < u := fun z => absurd ((oI_lt (a := a) (by omega) (fun u hu => by have := ho u hu; omega)).1.mpr z) (Int32.not_lt.mpr c21)
          refine x_iload_n d_Mo_goBelow_34 rfl rfl ?_
          refine x_iload_n d_Mo_goBelow_35 rfl rfl ?_
          refine x_icmp_ne (tgt := 46) d_Mo_goBelow_36 (by decide) (fun c36 => ?_) (fun c36 => ?_)
          · have hne : o ≠ some a := fun z => c36 ((oI_lt (a := a) (by omega) (fun u hu => by have := ho u hu; omega)).2.mpr z)
            have hbf : isBel T k a = false := by
              rw [← hbel]
              exact tBel_no (N := tN T) (fun j hj m e => hA j hj m e) (fun u hu => by have := ho u hu; omega) (fun u hu => by
                have h1 : ¬ a < u := fun z => hno ⟨u, hu, z⟩
                have h2 : u ≠ a := fun z => hne (by rw [hu, z])
                omega)
            have f2 := f0
            have h2 : ∀ j, j < tN T → τ.1 400 j = if a < j ∧ j < k + 1 ∧ isBel T j a = true then 0 else σ.1 400 j := fun j hj => by
              rw [h1 j hj]
              by_cases e : j = k
              · subst e
                rw [if_neg (fun z => by omega), if_neg (fun z => by rw [hbf] at z; exact absurd z.2.2 (by decide))]
              · by_cases y : a < j ∧ j < k ∧ isBel T j a = true
                · rw [if_pos y, if_pos ⟨y.1, by omega, y.2.2⟩]
                · rw [if_neg y, if_neg (fun z => y ⟨z.1, by omega, z.2.2⟩)]
            refine x_iinc (v := nI (k + 1)) d_Mo_goBelow_46 rfl (nI_1 k) rfl ?_
            refine x_goto (tgt := 4) d_Mo_goBelow_49 (by decide) ?_
            exact Wq.fg (ih (k + 1) _ (some (.int (oI o))) (by omega) (by omega) f2 h2) ⟨rfl, rfl, rfl, rfl, trivial⟩
          · have he : o = some a := (oI_lt (a := a) (by omega) (fun u hu => by have := ho u hu; omega)).2.mp c36
            have hbt : isBel T k a = true := by
              rw [← hbel, he]
              cases f with
              | zero => have := ho a he; omega
              | succ f => unfold tBel; rw [if_pos rfl]
            refine x_aload_n d_Mo_goBelow_39 rfl rfl ?_
            refine x_getR d_Mo_goBelow_40 f_Mo_35 rfl (by exact hM.1) (hM.r rfl) ?_
            refine x_iload_n d_Mo_goBelow_43 rfl rfl ?_
            refine x_iconst (v := 0) d_Mo_goBelow_44 (by decide) ?_
            refine x_iast d_Mo_goBelow_45 (by exact hM.s rfl) (vp_in_nI (show k < 48 by omega) (by decide)) ?_
            rw [nI_clamp (by omega)]
            have f2 : FrI [400] σ (wI τ 400 k 0) := f0.put (by simp)
            have h2 : ∀ j, j < tN T → (wI τ 400 k 0).1 400 j = if a < j ∧ j < k + 1 ∧ isBel T j a = true then 0 else σ.1 400 j := fun j hj => by
              by_cases e : j = k
              · subst e
                rw [wI_s, if_pos ⟨hak, by omega, hbt⟩]
              · rw [wI_j e, h1 j hj]
                by_cases y : a < j ∧ j < k ∧ isBel T j a = true
                · rw [if_pos y, if_pos ⟨y.1, by omega, y.2.2⟩]
                · rw [if_neg y, if_neg (fun z => y ⟨z.1, by omega, z.2.2⟩)]
            refine x_iinc (v := nI (k + 1)) d_Mo_goBelow_46 rfl (nI_1 k) rfl ?_
            refine x_goto (tgt := 4) d_Mo_goBelow_49 (by decide) ?_
            exact Wq.fg (ih (k + 1) _ (some (.int (oI o))) (by omega) (by omega) f2 h2) ⟨rfl, rfl, rfl, rfl, trivial⟩
        · obtain ⟨u, rfl, hau⟩ := (oI_lt (a := a) (by omega) (fun u hu => by have := ho u hu; omega)).1.mp (Int32.not_le.mp c21)
          have hu := ho u rfl
          rw [oI_s]
          first | refine x_aload_n d_Mo_goBelow_24 rfl rfl ?_ | refine x_aloadN_n d_Mo_goBelow_24 rfl rfl ?_ | refine x_aloadE_n d_Mo_goBelow_24 rfl rfl ?_ | refine x_aloadO_n d_Mo_goBelow_24 rfl rfl ?_
          refine x_getR d_Mo_goBelow_25 f_Mo_38 rfl (by first | exact hM.1 | exact hM.s rfl | assumption) (hM.r rfl) ?_
          refine x_iload_n d_Mo_goBelow_28 rfl rfl ?_
          refine x_iald d_Mo_goBelow_29 (by first | exact hM.1 | exact hM.s rfl | assumption) (vp_in_nI (show u < 48 by omega) (by decide)) ?_
          rw [nI_clamp (by omega), f0.2 401 (by simp), (hR.2.2.2 u (by omega)).1.2.1]
          refine x_istore_n d_Mo_goBelow_30 rfl rfl ?_
          refine x_goto (tgt := 19) d_Mo_goBelow_31 (by decide) ?_
          obtain ⟨f, rfl⟩ : ∃ r, f = r + 1 := ⟨f - 1, by omega⟩
          refine Wq.fg (ihf f (by omega) (lkn T u 3) (fun w hw => by have := hA u (by omega) w hw; omega) (by
            rw [← hbel]
            show tBel T a f (lkn T u 3) = (if u = a then true else tBel T a f (lkn T u 3))
            rw [if_neg (by omega)])) ⟨rfl, rfl, rfl, rfl, trivial⟩
      first | refine x_aload_n d_Mo_goBelow_12 rfl rfl ?_ | refine x_aloadN_n d_Mo_goBelow_12 rfl rfl ?_ | refine x_aloadE_n d_Mo_goBelow_12 rfl rfl ?_ | refine x_aloadO_n d_Mo_goBelow_12 rfl rfl ?_
      refine x_getR d_Mo_goBelow_13 f_Mo_38 rfl (by first | exact hM.1 | exact hM.s rfl | assumption) (hM.r rfl) ?_
      refine x_iload_n d_Mo_goBelow_16 rfl rfl ?_
      refine x_iald d_Mo_goBelow_17 (by first | exact hM.1 | exact hM.s rfl | assumption) (vp_in_nI (show k < 48 by omega) (by decide)) ?_
      rw [nI_clamp (by omega), f0.2 401 (by simp), (hR.2.2.2 k hkN).1.2.1]
      refine x_istore_n d_Mo_goBelow_18 rfl rfl ?_
      exact Wq.fg (li k (lkn T k 3) (fun u hu => by have := hA k hkN u hu; omega) rfl) ⟨rfl, rfl, rfl, rfl, trivial⟩
  refine Ct.of (lv := [some (rf G 391), some (.int (nI a)), none, none]) (ll := []) rfl rfl (EN.cat (n := 2) ⟨rfl, rfl, trivial⟩ (Nat.le_of_ble_eq_true rfl)) ?_
  refine x_iload_n d_Mo_goBelow_0 rfl rfl ?_
  refine x_iconst (v := 1) d_Mo_goBelow_1 (by decide) ?_
  refine x_iadd d_Mo_goBelow_2 ?_
  first | rw [nI_add] | rw [nI_1] | skip
  refine x_istore_n d_Mo_goBelow_3 rfl rfl ?_
  exact Wq.fg (lo (tN T + 1) (a + 1) σ none (by omega) (by omega) FrI.rf (fun j hj => by rw [if_neg (fun z => by omega)])) ⟨rfl, rfl, rfl, trivial⟩
