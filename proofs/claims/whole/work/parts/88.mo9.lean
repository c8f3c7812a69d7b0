/-! SuperDriverModel: renames, isRenaming -/
theorem fidx_le {s : Int32} : ∀ {zs : List Int32} {i : Nat}, i < zs.length → zs.getD i (-1) = s → fidx s zs ≤ i ∧ fidx s zs < zs.length ∧ zs.getD (fidx s zs) (-1) = s
  | [], i, h, _ => absurd h (Nat.not_lt_zero _)
  | x :: l, i, h, e => by
    unfold fidx
    by_cases z : x = s
    · rw [if_pos z]
      exact ⟨Nat.zero_le _, Nat.succ_pos _, z⟩
    · rw [if_neg z]
      cases i with
      | zero => exact absurd e z
      | succ i =>
        obtain ⟨a, b, c⟩ := fidx_le (s := s) (zs := l) (i := i) (Nat.lt_of_succ_lt_succ h) e
        exact ⟨by omega, by rw [List.length_cons]; omega, c⟩
theorem fidx_lt {s : Int32} : ∀ {zs : List Int32}, fidx s zs < zs.length → zs.getD (fidx s zs) (-1) = s
  | [], h => absurd h (Nat.not_lt_zero _)
  | x :: l, h => by
    unfold fidx at h ⊢
    by_cases z : x = s
    · rw [if_pos z]; exact z
    · rw [if_neg z] at h ⊢
      rw [List.length_cons] at h
      exact fidx_lt (zs := l) (by omega)
def mpI (zs ws : List Int32) (k v : Nat) : Int32 := if fidx (nI v) zs < k then ws.getD (fidx (nI v) zs) (-1) else -1
theorem renOK_v {zs ws : List Int32} {i a b : Nat} (hz : zs.getD i (-1) = nI a) (hw : ws.getD i (-1) = nI b) (ha : a < 100) (hb : b < 100) (hl : zs.length = ws.length) (hi : i < zs.length) (hz40 : zs.length ≤ 1000) : renOK zs ws i = decide (fidx (nI a) zs = fidx (nI b) ws) := by
  unfold renOK
  rw [hz, hw, isV_n (by omega), isV_n (by omega), decide_eq_true ha, decide_eq_true hb, Bool.and_true, if_pos rfl]
  unfold idxI
  obtain ⟨_, h1, _⟩ := fidx_le hi hz
  obtain ⟨_, h2, _⟩ := fidx_le (zs := ws) (by omega) hw
  rw [if_pos h1, if_pos h2]
  exact decide_eq_decide.mpr ⟨fun z => nI_inj z (by omega) (by omega), fun z => by rw [z]⟩
theorem renOK_c {zs ws : List Int32} {i a b : Nat} (hz : zs.getD i (-1) = nI a) (hw : ws.getD i (-1) = nI b) (ha : a ≤ 400) (hb : b ≤ 400) (h : 100 ≤ a ∨ 100 ≤ b) : renOK zs ws i = decide (nI a = nI b) := by
  unfold renOK
  rw [hz, hw, isV_n (by omega), isV_n (by omega)]
  rw [if_neg]
  intro z
  obtain ⟨x, y⟩ := Bool.and_eq_true_iff.mp z
  have := of_decide_eq_true x
  have := of_decide_eq_true y
  omega
theorem ren_st {zs ws : List Int32} {i a b : Nat} (hA : al (fun _ => True) zs) (hB : al (fun _ => True) ws) (hl : zs.length = ws.length) (hz40 : zs.length ≤ 1000) (hi : i < zs.length) (hz : zs.getD i (-1) = nI a) (hw : ws.getD i (-1) = nI b) (ha : a < 100) (hb : b < 100) (hok : ∀ j, j < i → renOK zs ws j = true) :
    renOK zs ws i = (decide (mpI zs ws i a = -1 ∨ mpI zs ws i a = nI b) && decide (mpI ws zs i b = -1 ∨ mpI ws zs i b = nI a)) := by
  rw [renOK_v hz hw ha hb hl hi hz40]
  obtain ⟨p1, p2, p3⟩ := fidx_le hi hz
  obtain ⟨q1, q2, q3⟩ := fidx_le (zs := ws) (by omega) hw
  have nz : ∀ j, j < zs.length → zs.getD j (-1) ≠ -1 := fun j hj e => by
    obtain ⟨k, hk, ek, _⟩ := hA.getD hj
    rw [ek] at e
    exact nI_nm1 (by omega) e
  have nw : ∀ j, j < ws.length → ws.getD j (-1) ≠ -1 := fun j hj e => by
    obtain ⟨k, hk, ek, _⟩ := hB.getD hj
    rw [ek] at e
    exact nI_nm1 (by omega) e
  have key : fidx (nI a) zs = fidx (nI b) ws ↔ ((mpI zs ws i a = -1 ∨ mpI zs ws i a = nI b) ∧ (mpI ws zs i b = -1 ∨ mpI ws zs i b = nI a)) := by
    unfold mpI
    constructor
    · intro e
      by_cases h : fidx (nI a) zs < i
      · rw [if_pos h, if_pos (by omega), e]
        exact ⟨Or.inr q3, Or.inr (by rw [← e]; exact p3)⟩
      · rw [if_neg h, if_neg (by omega)]
        exact ⟨Or.inl rfl, Or.inl rfl⟩
    · intro ⟨h1, h2⟩
      by_cases h : fidx (nI a) zs < i
      · rw [if_pos h] at h1
        have h1' : ws.getD (fidx (nI a) zs) (-1) = nI b := by
          rcases h1 with z | z
          · exact absurd z (nw _ (by omega))
          · exact z
        have hj := hok _ h
        rw [renOK_v p3 h1' ha hb hl p2 hz40] at hj
        exact of_decide_eq_true hj
      · by_cases h3 : fidx (nI b) ws < i
        · rw [if_pos h3] at h2
          have h2' : zs.getD (fidx (nI b) ws) (-1) = nI a := by
            rcases h2 with z | z
            · exact absurd z (nz _ (by omega))
            · exact z
          have := (fidx_le (by omega) h2').1
          omega
        · omega
  rw [← Bool.decide_and]
  exact decide_eq_decide.mpr key
theorem mpI_up {zs ws : List Int32} {i a b v : Nat} (hi : i < zs.length) (hz : zs.getD i (-1) = nI a) (hw : ws.getD i (-1) = nI b) (ha : a < 100) (hv : v < 100) (hg : mpI zs ws i a = -1 ∨ mpI zs ws i a = nI b) (hnw : ∀ j, j < i → ws.getD j (-1) ≠ -1) : mpI zs ws (i + 1) v = if v = a then nI b else mpI zs ws i v := by
  obtain ⟨p1, p2, p3⟩ := fidx_le hi hz
  by_cases e : v = a
  · subst e
    rw [if_pos rfl]
    unfold mpI at hg ⊢
    rw [if_pos (by omega)]
    by_cases h : fidx (nI v) zs < i
    · rw [if_pos h] at hg
      rcases hg with z | z
      · exact absurd z (hnw _ h)
      · exact z
    · rw [show fidx (nI v) zs = i by omega]
      exact hw
  · rw [if_neg e]
    unfold mpI
    by_cases h : fidx (nI v) zs < i
    · rw [if_pos h, if_pos (by omega)]
    · rw [if_neg h]
      by_cases h2 : fidx (nI v) zs < i + 1
      · exfalso
        have h3 : fidx (nI v) zs = i := by omega
        have := fidx_lt (s := nI v) (zs := zs) (by omega)
        rw [h3, hz] at this
        exact e (nI_inj this (by omega) (by omega)).symm
      · rw [if_neg h2]
theorem mpI_c {zs ws : List Int32} {i x v : Nat} (hi : i < zs.length) (hz : zs.getD i (-1) = nI x) (hx : 100 ≤ x) (hx4 : x ≤ 400) (hv : v < 100) : mpI zs ws (i + 1) v = mpI zs ws i v := by
  unfold mpI
  by_cases q : fidx (nI v) zs < i
  · rw [if_pos q, if_pos (by omega)]
  · rw [if_neg q]
    by_cases q2 : fidx (nI v) zs < i + 1
    · exfalso
      have q3 : fidx (nI v) zs = i := by omega
      have := fidx_lt (s := nI v) (zs := zs) (by omega)
      rw [q3, hz] at this
      have := nI_inj this (by omega) (by omega)
      omega
    · rw [if_neg q2]
theorem renI_all {zs ws : List Int32} (hl : zs.length = ws.length) (h : ∀ j, j < zs.length → renOK zs ws j = true) : renI zs ws = true := by
  unfold renI
  rw [decide_eq_true hl, Bool.true_and]
  exact decide_eq_true h
theorem renI_no {zs ws : List Int32} {i : Nat} (hi : i < zs.length) (h : renOK zs ws i = false) : renI zs ws = false := by
  unfold renI
  rw [Bool.and_eq_false_iff]
  right
  exact decide_eq_false (fun z => by rw [z i hi] at h; cases h)
set_option maxRecDepth 10000 in
set_option maxHeartbeats 1000000 in
theorem c_Mo_renames {G : Ctx} {d : Nat} {Γ : List Sh} {σ : Mem} {Q : Option Value → List Sh → Mem → Prop} {ca cb pa pb Na Nb : Nat} {zs ws : List Int32} (hM : MoS Γ σ) (hsa : Γ[ca]? = some (1, Na)) (hsb : Γ[cb]? = some (1, Nb)) (hca : ca ≠ 419 ∧ ca ≠ 420) (hcb : cb ≠ 419 ∧ cb ≠ 420) (h1 : pa + zs.length ≤ Na) (h2 : pb + ws.length ≤ Nb) (h3 : Na ≤ 30000) (h4 : Nb ≤ 30000) (hzl : zs.length ≤ 100) (hwl : ws.length ≤ 100) (hsz : seg σ ca pa zs) (hsw : seg σ cb pb ws) (hA : al (fun _ => True) zs) (hB : al (fun _ => True) ws) (hQ : ∀ τ, FrI [419, 420] σ τ → (renI zs ws = true → ∀ v, v < 100 → τ.1 419 v = mpI zs ws zs.length v) → Q (some (.int (bI (renI zs ws)))) Γ τ) : Ct G M_Mo_renames d 0 0 [rf G 391, rf G ca, .int (nI pa), .int (nI zs.length), rf G cb, .int (nI pb), .int (nI ws.length)] Γ σ Q := by
  have nz : ∀ j, j < zs.length → zs.getD j (-1) ≠ -1 := fun j hj e => by
    obtain ⟨k, hk, ek, _⟩ := hA.getD hj
    rw [ek] at e
    exact nI_nm1 (by omega) e
  have nw : ∀ j, j < ws.length → ws.getD j (-1) ≠ -1 := fun j hj e => by
    obtain ⟨k, hk, ek, _⟩ := hB.getD hj
    rw [ek] at e
    exact nI_nm1 (by omega) e
  have tl : ∀ (g : Bool) (i8 : Int32) (x9 x10 : Option Value) (τ : Mem), g = renI zs ws → FrI [419, 420] σ τ → (g = true → ∀ v, v < 100 → τ.1 419 v = mpI zs ws zs.length v) → Wq G M_Mo_renames (Em G d 0 0 Q) 0 0 185 [some (rf G 391), some (rf G ca), some (.int (nI pa)), some (.int (nI zs.length)), some (rf G cb), some (.int (nI pb)), some (.int (nI ws.length)), some (.int (bI g)), some (.int i8), x9, x10] [] [] Γ τ := by
    intro g i8 x9 x10 τ hR f0 hm
    refine x_iload d_Mo_renames_185 rfl ?_
    exact x_ireturn d_Mo_renames_187 rfl (by cases g <;> rfl) (by
      have h := hQ τ f0 (fun z => hm (hR.trans z))
      rw [← hR] at h
      exact h)
  have lp : ∀ (k i : Nat) (g : Bool) (x9 x10 : Option Value) (τ : Mem), i ≤ zs.length → zs.length < i + k → FrI [419, 420] σ τ → (g = true → zs.length = ws.length ∧ (∀ j, j < i → renOK zs ws j = true) ∧ ∀ v, v < 100 → τ.1 419 v = mpI zs ws i v ∧ τ.1 420 v = mpI ws zs i v) → (g = false → renI zs ws = false) → Wq G M_Mo_renames (Em G d 0 0 Q) 0 0 48 [some (rf G 391), some (rf G ca), some (.int (nI pa)), some (.int (nI zs.length)), some (rf G cb), some (.int (nI pb)), some (.int (nI ws.length)), some (.int (bI g)), some (.int (nI i)), x9, x10] [] [] Γ τ := by
    intro k
    induction k with
    | zero => intro i g x9 x10 τ hi hk; omega
    | succ k ih =>
    intro i g x9 x10 τ hi hk f0 hg2 hg0
    have hM := hM.fr f0
    refine x_iload d_Mo_renames_48 rfl ?_
    refine x_iload_n d_Mo_renames_50 rfl rfl ?_
    refine x_icmp_ge (tgt := 185) d_Mo_renames_51 (by decide) (fun c51 => ?_) (fun c51 => ?_)
    · refine tl g _ _ _ _ (by
        cases g with
        | false => exact (hg0 rfl).symm
        | true =>
          obtain ⟨q1, q2, q3⟩ := hg2 rfl
          have e : i = zs.length := by have := (nI_leI (by omega) (by omega)).mp c51; omega
          exact (renI_all q1 (fun j hj => q2 j (by omega))).symm) f0 (fun z => ?_)
      obtain ⟨q1, q2, q3⟩ := hg2 z
      have e : i = zs.length := by have := (nI_leI (by omega) (by omega)).mp c51; omega
      rw [← e]
      exact fun v hv => (q3 v hv).1
    · refine x_iload d_Mo_renames_54 rfl ?_
      refine x_if_eq (tgt := 185) d_Mo_renames_56 (by decide) (fun c56 => ?_) (fun c56 => ?_)
      · refine tl g _ _ _ _ (by rw [bI_0 c56]; exact (hg0 (bI_0 c56)).symm) f0 (fun z => by rw [bI_0 c56] at z; cases z)
      · have hin : i < zs.length := Nat.not_le.mp fun z => c51 (nI_le z (by omega))
        obtain ⟨hl, hok, hmp⟩ := hg2 (bI_n0 c56)
        obtain ⟨a, ha4, ez, _⟩ := hA.getD hin
        obtain ⟨b, hb4, ew, _⟩ := hB.getD (show i < ws.length by omega)
        have j179 : ∀ (g2 : Bool) (τ : Mem), FrI [419, 420] σ τ → (g2 = true → zs.length = ws.length ∧ (∀ j, j < i + 1 → renOK zs ws j = true) ∧ ∀ v, v < 100 → τ.1 419 v = mpI zs ws (i + 1) v ∧ τ.1 420 v = mpI ws zs (i + 1) v) → (g2 = false → renI zs ws = false) → Wq G M_Mo_renames (Em G d 0 0 Q) 0 0 179 [some (rf G 391), some (rf G ca), some (.int (nI pa)), some (.int (nI zs.length)), some (rf G cb), some (.int (nI pb)), some (.int (nI ws.length)), some (.int (bI g2)), some (.int (nI i)), some (.int (nI a)), some (.int (nI b))] [] [] Γ τ := by
          intro g2 τ f0 hg2 hg0
          refine x_iinc (v := nI (i + 1)) d_Mo_renames_179 rfl (nI_1 i) rfl ?_
          refine x_goto (tgt := 48) d_Mo_renames_182 (by decide) ?_
          exact Wq.fg (ih (i + 1) g2 (some (.int (nI a))) (some (.int (nI b))) τ (by omega) (by omega) f0 hg2 hg0) ⟨rfl, rfl, rfl, rfl, rfl, rfl, rfl, rfl, rfl, rfl, rfl, trivial⟩
        first | refine x_aload_n d_Mo_renames_59 rfl rfl ?_ | refine x_aloadN_n d_Mo_renames_59 rfl rfl ?_ | refine x_aloadE_n d_Mo_renames_59 rfl rfl ?_ | refine x_aloadO_n d_Mo_renames_59 rfl rfl ?_
        refine x_iload_n d_Mo_renames_60 rfl rfl ?_
        refine x_iload d_Mo_renames_61 rfl ?_
        refine x_iadd d_Mo_renames_63 ?_
        first | rw [nI_add] | rw [nI_1] | skip
        refine x_iald d_Mo_renames_64 (by exact hsa) (vp_in_nI (show pa + i < Na by omega) (by omega)) ?_
        rw [nI_clamp (by omega), hsz.fr f0 (by simp; omega) i hin, ez]
        refine x_istore d_Mo_renames_65 rfl ?_
        first | refine x_aload d_Mo_renames_67 rfl ?_ | refine x_aloadN d_Mo_renames_67 rfl ?_ | refine x_aloadE d_Mo_renames_67 rfl ?_ | refine x_aloadO d_Mo_renames_67 rfl ?_
        refine x_iload d_Mo_renames_69 rfl ?_
        refine x_iload d_Mo_renames_71 rfl ?_
        refine x_iadd d_Mo_renames_73 ?_
        first | rw [nI_add] | rw [nI_1] | skip
        refine x_iald d_Mo_renames_74 (by exact hsb) (vp_in_nI (show pb + i < Nb by omega) (by omega)) ?_
        rw [nI_clamp (by omega), hsw.fr f0 (by simp; omega) i (by omega), ew]
        refine x_istore d_Mo_renames_75 rfl ?_
        refine x_iload d_Mo_renames_77 rfl ?_
        refine x_bipush (v := 100) d_Mo_renames_79 (by decide) ?_
        refine x_icmp_ge (tgt := 91) d_Mo_renames_81 (by decide) (fun c81 => ?_) (fun c81 => ?_)
        · skip
          refine x_iload d_Mo_renames_91 rfl ?_
          refine x_iload d_Mo_renames_93 rfl ?_
          refine x_icmp_ne (tgt := 102) d_Mo_renames_95 (by decide) (fun c95 => ?_) (fun c95 => ?_)
          · refine x_iconst (v := 0) d_Mo_renames_102 (by decide) ?_
            refine x_istore d_Mo_renames_103 rfl ?_
            refine x_goto (tgt := 179) d_Mo_renames_105 (by decide) ?_
            have h100 : 100 ≤ a ∨ 100 ≤ b := by
              first
              | exact Or.inl ((nI_leI (by decide) (by omega)).mp (show nI 100 ≤ nI a from c81))
              | exact Or.inr (Nat.not_lt.mp fun z => c88 (show nI b < nI 100 from nI_lt z (by decide)))
            have hrc := renOK_c ez ew ha4 hb4 h100
            first
            | (rw [decide_eq_false c95] at hrc
               exact j179 false _ f0 (fun z => by cases z) (fun _ => renI_no hin hrc))
            | (rw [decide_eq_true c95] at hrc
               refine j179 true _ f0 (fun _ => ⟨hl, fun j hj => ?_, fun v hv => ?_⟩) (fun z => by cases z)
               · by_cases e : j = i
                 · rw [e]; exact hrc
                 · exact hok j (by omega)
               · have eab := nI_inj c95 (by omega) (by omega)
                 rw [mpI_c hin ez (by omega) ha4 hv, mpI_c (zs := ws) (ws := zs) (by omega) ew (by omega) hb4 hv]
                 exact hmp v hv)
          · refine x_iconst (v := 1) d_Mo_renames_98 (by decide) ?_
            refine x_goto (tgt := 103) d_Mo_renames_99 (by decide) ?_
            refine x_istore d_Mo_renames_103 rfl ?_
            refine x_goto (tgt := 179) d_Mo_renames_105 (by decide) ?_
            have h100 : 100 ≤ a ∨ 100 ≤ b := by
              first
              | exact Or.inl ((nI_leI (by decide) (by omega)).mp (show nI 100 ≤ nI a from c81))
              | exact Or.inr (Nat.not_lt.mp fun z => c88 (show nI b < nI 100 from nI_lt z (by decide)))
            have hrc := renOK_c ez ew ha4 hb4 h100
            first
            | (rw [decide_eq_false c95] at hrc
               exact j179 false _ f0 (fun z => by cases z) (fun _ => renI_no hin hrc))
            | (rw [decide_eq_true c95] at hrc
               refine j179 true _ f0 (fun _ => ⟨hl, fun j hj => ?_, fun v hv => ?_⟩) (fun z => by cases z)
               · by_cases e : j = i
                 · rw [e]; exact hrc
                 · exact hok j (by omega)
               · have eab := nI_inj c95 (by omega) (by omega)
                 rw [mpI_c hin ez (by omega) ha4 hv, mpI_c (zs := ws) (ws := zs) (by omega) ew (by omega) hb4 hv]
                 exact hmp v hv)
        · refine x_iload d_Mo_renames_84 rfl ?_
          refine x_bipush (v := 100) d_Mo_renames_86 (by decide) ?_
          refine x_icmp_lt (tgt := 108) d_Mo_renames_88 (by decide) (fun c88 => ?_) (fun c88 => ?_)
          · have ha : a < 100 := Nat.not_le.mp fun z => c81 (show nI 100 ≤ nI a from nI_le z (by omega))
            have hb : b < 100 := (nI_ltI (by omega) (by decide)).mp (show nI b < nI 100 from c88)
            have j159 : ∀ x : Int32, x = bI (renOK zs ws i) → Wq G M_Mo_renames (Em G d 0 0 Q) 0 0 159 [some (rf G 391), some (rf G ca), some (.int (nI pa)), some (.int (nI zs.length)), some (rf G cb), some (.int (nI pb)), some (.int (nI ws.length)), some (.int (bI g)), some (.int (nI i)), some (.int (nI a)), some (.int (nI b))] [] [.int x] Γ τ := by
              intro x hx
              subst hx
              refine x_istore d_Mo_renames_159 rfl ?_
              first | refine x_aload_n d_Mo_renames_161 rfl rfl ?_ | refine x_aloadN_n d_Mo_renames_161 rfl rfl ?_ | refine x_aloadE_n d_Mo_renames_161 rfl rfl ?_ | refine x_aloadO_n d_Mo_renames_161 rfl rfl ?_
              refine x_getR d_Mo_renames_162 f_Mo_92 rfl (by first | exact hM.1 | exact hM.s rfl | assumption) (hM.r rfl) ?_
              refine x_iload d_Mo_renames_165 rfl ?_
              refine x_iload d_Mo_renames_167 rfl ?_
              refine x_iast d_Mo_renames_169 (by first | exact hM.1 | exact hM.s rfl | assumption) (vp_in_nI ha (by decide)) ?_
              rw [nI_clamp (by omega)]
              first | refine x_aload_n d_Mo_renames_170 rfl rfl ?_ | refine x_aloadN_n d_Mo_renames_170 rfl rfl ?_ | refine x_aloadE_n d_Mo_renames_170 rfl rfl ?_ | refine x_aloadO_n d_Mo_renames_170 rfl rfl ?_
              refine x_getR d_Mo_renames_171 f_Mo_95 rfl (by first | exact hM.1 | exact hM.s rfl | assumption) (hM.r rfl) ?_
              refine x_iload d_Mo_renames_174 rfl ?_
              refine x_iload d_Mo_renames_176 rfl ?_
              refine x_iast d_Mo_renames_178 (by first | exact hM.1 | exact hM.s rfl | assumption) (vp_in_nI hb (by decide)) ?_
              rw [nI_clamp (by omega)]
              refine j179 (renOK zs ws i) _ ((f0.put (by simp)).put (by simp)) (fun hh => ?_) (fun hh => renI_no hin hh)
              have hcond := ren_st hA hB hl (by omega) hin ez ew ha hb hok
              rw [hh] at hcond
              obtain ⟨z1, z2⟩ := Bool.and_eq_true_iff.mp hcond.symm
              have z1 := of_decide_eq_true z1
              have z2 := of_decide_eq_true z2
              refine ⟨hl, fun j hj => ?_, fun v hv => ⟨?_, ?_⟩⟩
              · by_cases e : j = i
                · rw [e]; exact hh
                · exact hok j (by omega)
              · rw [mpI_up hin ez ew ha hv z1 (fun j hj => nw j (by omega)), wI_o (by decide)]
                by_cases e : v = a
                · rw [if_pos e, e, wI_s]
                · rw [if_neg e, wI_j e]; exact (hmp v hv).1
              · rw [mpI_up (zs := ws) (ws := zs) (by omega) ew ez hb hv z2 (fun j hj => nz j (by omega))]
                by_cases e : v = b
                · rw [if_pos e, e, wI_s]
                · rw [if_neg e, wI_j e, wI_o (by decide)]; exact (hmp v hv).2
            first | refine x_aload_n d_Mo_renames_108 rfl rfl ?_ | refine x_aloadN_n d_Mo_renames_108 rfl rfl ?_ | refine x_aloadE_n d_Mo_renames_108 rfl rfl ?_ | refine x_aloadO_n d_Mo_renames_108 rfl rfl ?_
            refine x_getR d_Mo_renames_109 f_Mo_92 rfl (by first | exact hM.1 | exact hM.s rfl | assumption) (hM.r rfl) ?_
            refine x_iload d_Mo_renames_112 rfl ?_
            refine x_iald d_Mo_renames_114 (by first | exact hM.1 | exact hM.s rfl | assumption) (vp_in_nI ha (by decide)) ?_
            rw [nI_clamp (by omega), (hmp a ha).1]
            refine x_iconst (v := -1) d_Mo_renames_115 (by decide) ?_
            refine x_icmp_eq (tgt := 131) d_Mo_renames_116 (by decide) (fun c116 => ?_) (fun c116 => ?_)
            · first | refine x_aload_n d_Mo_renames_131 rfl rfl ?_ | refine x_aloadN_n d_Mo_renames_131 rfl rfl ?_ | refine x_aloadE_n d_Mo_renames_131 rfl rfl ?_ | refine x_aloadO_n d_Mo_renames_131 rfl rfl ?_
              refine x_getR d_Mo_renames_132 f_Mo_95 rfl (by first | exact hM.1 | exact hM.s rfl | assumption) (hM.r rfl) ?_
              refine x_iload d_Mo_renames_135 rfl ?_
              refine x_iald d_Mo_renames_137 (by first | exact hM.1 | exact hM.s rfl | assumption) (vp_in_nI hb (by decide)) ?_
              rw [nI_clamp (by omega), (hmp b hb).2]
              refine x_iconst (v := -1) d_Mo_renames_138 (by decide) ?_
              refine x_icmp_eq (tgt := 154) d_Mo_renames_139 (by decide) (fun c139 => ?_) (fun c139 => ?_)
              · refine x_iconst (v := 1) d_Mo_renames_154 (by decide) ?_
                refine x_goto (tgt := 159) d_Mo_renames_155 (by decide) ?_
                first
                | exact j159 _ (by rw [ren_st hA hB hl (by omega) hin ez ew ha hb hok, decide_eq_false (fun z => by rcases z with z | z; exact c116 z; exact c128 z), Bool.false_and]; rfl)
                | exact j159 _ (by rw [ren_st hA hB hl (by omega) hin ez ew ha hb hok, decide_eq_true (show _ ∨ _ by first | exact Or.inl c116 | exact Or.inr c128), decide_eq_false (fun z => by rcases z with z | z; exact c139 z; exact c151 z)]; rfl)
                | exact j159 _ (by rw [ren_st hA hB hl (by omega) hin ez ew ha hb hok, decide_eq_true (show _ ∨ _ by first | exact Or.inl c116 | exact Or.inr c128), decide_eq_true (show _ ∨ _ by first | exact Or.inl c139 | exact Or.inr c151)]; rfl)
              · first | refine x_aload_n d_Mo_renames_142 rfl rfl ?_ | refine x_aloadN_n d_Mo_renames_142 rfl rfl ?_ | refine x_aloadE_n d_Mo_renames_142 rfl rfl ?_ | refine x_aloadO_n d_Mo_renames_142 rfl rfl ?_
                refine x_getR d_Mo_renames_143 f_Mo_95 rfl (by first | exact hM.1 | exact hM.s rfl | assumption) (hM.r rfl) ?_
                refine x_iload d_Mo_renames_146 rfl ?_
                refine x_iald d_Mo_renames_148 (by first | exact hM.1 | exact hM.s rfl | assumption) (vp_in_nI hb (by decide)) ?_
                rw [nI_clamp (by omega), (hmp b hb).2]
                refine x_iload d_Mo_renames_149 rfl ?_
                refine x_icmp_ne (tgt := 158) d_Mo_renames_151 (by decide) (fun c151 => ?_) (fun c151 => ?_)
                · refine x_iconst (v := 0) d_Mo_renames_158 (by decide) ?_
                  first
                  | exact j159 _ (by rw [ren_st hA hB hl (by omega) hin ez ew ha hb hok, decide_eq_false (fun z => by rcases z with z | z; exact c116 z; exact c128 z), Bool.false_and]; rfl)
                  | exact j159 _ (by rw [ren_st hA hB hl (by omega) hin ez ew ha hb hok, decide_eq_true (show _ ∨ _ by first | exact Or.inl c116 | exact Or.inr c128), decide_eq_false (fun z => by rcases z with z | z; exact c139 z; exact c151 z)]; rfl)
                  | exact j159 _ (by rw [ren_st hA hB hl (by omega) hin ez ew ha hb hok, decide_eq_true (show _ ∨ _ by first | exact Or.inl c116 | exact Or.inr c128), decide_eq_true (show _ ∨ _ by first | exact Or.inl c139 | exact Or.inr c151)]; rfl)
                · refine x_iconst (v := 1) d_Mo_renames_154 (by decide) ?_
                  refine x_goto (tgt := 159) d_Mo_renames_155 (by decide) ?_
                  first
                  | exact j159 _ (by rw [ren_st hA hB hl (by omega) hin ez ew ha hb hok, decide_eq_false (fun z => by rcases z with z | z; exact c116 z; exact c128 z), Bool.false_and]; rfl)
                  | exact j159 _ (by rw [ren_st hA hB hl (by omega) hin ez ew ha hb hok, decide_eq_true (show _ ∨ _ by first | exact Or.inl c116 | exact Or.inr c128), decide_eq_false (fun z => by rcases z with z | z; exact c139 z; exact c151 z)]; rfl)
                  | exact j159 _ (by rw [ren_st hA hB hl (by omega) hin ez ew ha hb hok, decide_eq_true (show _ ∨ _ by first | exact Or.inl c116 | exact Or.inr c128), decide_eq_true (show _ ∨ _ by first | exact Or.inl c139 | exact Or.inr c151)]; rfl)
            · first | refine x_aload_n d_Mo_renames_119 rfl rfl ?_ | refine x_aloadN_n d_Mo_renames_119 rfl rfl ?_ | refine x_aloadE_n d_Mo_renames_119 rfl rfl ?_ | refine x_aloadO_n d_Mo_renames_119 rfl rfl ?_
              refine x_getR d_Mo_renames_120 f_Mo_92 rfl (by first | exact hM.1 | exact hM.s rfl | assumption) (hM.r rfl) ?_
              refine x_iload d_Mo_renames_123 rfl ?_
              refine x_iald d_Mo_renames_125 (by first | exact hM.1 | exact hM.s rfl | assumption) (vp_in_nI ha (by decide)) ?_
              rw [nI_clamp (by omega), (hmp a ha).1]
              refine x_iload d_Mo_renames_126 rfl ?_
              refine x_icmp_ne (tgt := 158) d_Mo_renames_128 (by decide) (fun c128 => ?_) (fun c128 => ?_)
              · refine x_iconst (v := 0) d_Mo_renames_158 (by decide) ?_
                first
                | exact j159 _ (by rw [ren_st hA hB hl (by omega) hin ez ew ha hb hok, decide_eq_false (fun z => by rcases z with z | z; exact c116 z; exact c128 z), Bool.false_and]; rfl)
                | exact j159 _ (by rw [ren_st hA hB hl (by omega) hin ez ew ha hb hok, decide_eq_true (show _ ∨ _ by first | exact Or.inl c116 | exact Or.inr c128), decide_eq_false (fun z => by rcases z with z | z; exact c139 z; exact c151 z)]; rfl)
                | exact j159 _ (by rw [ren_st hA hB hl (by omega) hin ez ew ha hb hok, decide_eq_true (show _ ∨ _ by first | exact Or.inl c116 | exact Or.inr c128), decide_eq_true (show _ ∨ _ by first | exact Or.inl c139 | exact Or.inr c151)]; rfl)
              · first | refine x_aload_n d_Mo_renames_131 rfl rfl ?_ | refine x_aloadN_n d_Mo_renames_131 rfl rfl ?_ | refine x_aloadE_n d_Mo_renames_131 rfl rfl ?_ | refine x_aloadO_n d_Mo_renames_131 rfl rfl ?_
                refine x_getR d_Mo_renames_132 f_Mo_95 rfl (by first | exact hM.1 | exact hM.s rfl | assumption) (hM.r rfl) ?_
                refine x_iload d_Mo_renames_135 rfl ?_
                refine x_iald d_Mo_renames_137 (by first | exact hM.1 | exact hM.s rfl | assumption) (vp_in_nI hb (by decide)) ?_
                rw [nI_clamp (by omega), (hmp b hb).2]
                refine x_iconst (v := -1) d_Mo_renames_138 (by decide) ?_
                refine x_icmp_eq (tgt := 154) d_Mo_renames_139 (by decide) (fun c139 => ?_) (fun c139 => ?_)
                · refine x_iconst (v := 1) d_Mo_renames_154 (by decide) ?_
                  refine x_goto (tgt := 159) d_Mo_renames_155 (by decide) ?_
                  first
                  | exact j159 _ (by rw [ren_st hA hB hl (by omega) hin ez ew ha hb hok, decide_eq_false (fun z => by rcases z with z | z; exact c116 z; exact c128 z), Bool.false_and]; rfl)
                  | exact j159 _ (by rw [ren_st hA hB hl (by omega) hin ez ew ha hb hok, decide_eq_true (show _ ∨ _ by first | exact Or.inl c116 | exact Or.inr c128), decide_eq_false (fun z => by rcases z with z | z; exact c139 z; exact c151 z)]; rfl)
                  | exact j159 _ (by rw [ren_st hA hB hl (by omega) hin ez ew ha hb hok, decide_eq_true (show _ ∨ _ by first | exact Or.inl c116 | exact Or.inr c128), decide_eq_true (show _ ∨ _ by first | exact Or.inl c139 | exact Or.inr c151)]; rfl)
                · first | refine x_aload_n d_Mo_renames_142 rfl rfl ?_ | refine x_aloadN_n d_Mo_renames_142 rfl rfl ?_ | refine x_aloadE_n d_Mo_renames_142 rfl rfl ?_ | refine x_aloadO_n d_Mo_renames_142 rfl rfl ?_
                  refine x_getR d_Mo_renames_143 f_Mo_95 rfl (by first | exact hM.1 | exact hM.s rfl | assumption) (hM.r rfl) ?_
                  refine x_iload d_Mo_renames_146 rfl ?_
                  refine x_iald d_Mo_renames_148 (by first | exact hM.1 | exact hM.s rfl | assumption) (vp_in_nI hb (by decide)) ?_
                  rw [nI_clamp (by omega), (hmp b hb).2]
                  refine x_iload d_Mo_renames_149 rfl ?_
                  refine x_icmp_ne (tgt := 158) d_Mo_renames_151 (by decide) (fun c151 => ?_) (fun c151 => ?_)
                  · refine x_iconst (v := 0) d_Mo_renames_158 (by decide) ?_
                    first
                    | exact j159 _ (by rw [ren_st hA hB hl (by omega) hin ez ew ha hb hok, decide_eq_false (fun z => by rcases z with z | z; exact c116 z; exact c128 z), Bool.false_and]; rfl)
                    | exact j159 _ (by rw [ren_st hA hB hl (by omega) hin ez ew ha hb hok, decide_eq_true (show _ ∨ _ by first | exact Or.inl c116 | exact Or.inr c128), decide_eq_false (fun z => by rcases z with z | z; exact c139 z; exact c151 z)]; rfl)
                    | exact j159 _ (by rw [ren_st hA hB hl (by omega) hin ez ew ha hb hok, decide_eq_true (show _ ∨ _ by first | exact Or.inl c116 | exact Or.inr c128), decide_eq_true (show _ ∨ _ by first | exact Or.inl c139 | exact Or.inr c151)]; rfl)
                  · refine x_iconst (v := 1) d_Mo_renames_154 (by decide) ?_
                    refine x_goto (tgt := 159) d_Mo_renames_155 (by decide) ?_
                    first
                    | exact j159 _ (by rw [ren_st hA hB hl (by omega) hin ez ew ha hb hok, decide_eq_false (fun z => by rcases z with z | z; exact c116 z; exact c128 z), Bool.false_and]; rfl)
                    | exact j159 _ (by rw [ren_st hA hB hl (by omega) hin ez ew ha hb hok, decide_eq_true (show _ ∨ _ by first | exact Or.inl c116 | exact Or.inr c128), decide_eq_false (fun z => by rcases z with z | z; exact c139 z; exact c151 z)]; rfl)
                    | exact j159 _ (by rw [ren_st hA hB hl (by omega) hin ez ew ha hb hok, decide_eq_true (show _ ∨ _ by first | exact Or.inl c116 | exact Or.inr c128), decide_eq_true (show _ ∨ _ by first | exact Or.inl c139 | exact Or.inr c151)]; rfl)
          · skip
            refine x_iload d_Mo_renames_91 rfl ?_
            refine x_iload d_Mo_renames_93 rfl ?_
            refine x_icmp_ne (tgt := 102) d_Mo_renames_95 (by decide) (fun c95 => ?_) (fun c95 => ?_)
            · refine x_iconst (v := 0) d_Mo_renames_102 (by decide) ?_
              refine x_istore d_Mo_renames_103 rfl ?_
              refine x_goto (tgt := 179) d_Mo_renames_105 (by decide) ?_
              have h100 : 100 ≤ a ∨ 100 ≤ b := by
                first
                | exact Or.inl ((nI_leI (by decide) (by omega)).mp (show nI 100 ≤ nI a from c81))
                | exact Or.inr (Nat.not_lt.mp fun z => c88 (show nI b < nI 100 from nI_lt z (by decide)))
              have hrc := renOK_c ez ew ha4 hb4 h100
              first
              | (rw [decide_eq_false c95] at hrc
                 exact j179 false _ f0 (fun z => by cases z) (fun _ => renI_no hin hrc))
              | (rw [decide_eq_true c95] at hrc
                 refine j179 true _ f0 (fun _ => ⟨hl, fun j hj => ?_, fun v hv => ?_⟩) (fun z => by cases z)
                 · by_cases e : j = i
                   · rw [e]; exact hrc
                   · exact hok j (by omega)
                 · have eab := nI_inj c95 (by omega) (by omega)
                   rw [mpI_c hin ez (by omega) ha4 hv, mpI_c (zs := ws) (ws := zs) (by omega) ew (by omega) hb4 hv]
                   exact hmp v hv)
            · refine x_iconst (v := 1) d_Mo_renames_98 (by decide) ?_
              refine x_goto (tgt := 103) d_Mo_renames_99 (by decide) ?_
              refine x_istore d_Mo_renames_103 rfl ?_
              refine x_goto (tgt := 179) d_Mo_renames_105 (by decide) ?_
              have h100 : 100 ≤ a ∨ 100 ≤ b := by
                first
                | exact Or.inl ((nI_leI (by decide) (by omega)).mp (show nI 100 ≤ nI a from c81))
                | exact Or.inr (Nat.not_lt.mp fun z => c88 (show nI b < nI 100 from nI_lt z (by decide)))
              have hrc := renOK_c ez ew ha4 hb4 h100
              first
              | (rw [decide_eq_false c95] at hrc
                 exact j179 false _ f0 (fun z => by cases z) (fun _ => renI_no hin hrc))
              | (rw [decide_eq_true c95] at hrc
                 refine j179 true _ f0 (fun _ => ⟨hl, fun j hj => ?_, fun v hv => ?_⟩) (fun z => by cases z)
                 · by_cases e : j = i
                   · rw [e]; exact hrc
                   · exact hok j (by omega)
                 · have eab := nI_inj c95 (by omega) (by omega)
                   rw [mpI_c hin ez (by omega) ha4 hv, mpI_c (zs := ws) (ws := zs) (by omega) ew (by omega) hb4 hv]
                   exact hmp v hv)
  have l0 : ∀ (k v : Nat) (τ : Mem), v ≤ 100 → 100 < v + k → FrI [419, 420] σ τ → (∀ w, w < v → τ.1 419 w = -1 ∧ τ.1 420 w = -1) → Wq G M_Mo_renames (Em G d 0 0 Q) 0 0 3 [some (rf G 391), some (rf G ca), some (.int (nI pa)), some (.int (nI zs.length)), some (rf G cb), some (.int (nI pb)), some (.int (nI ws.length)), some (.int (nI v)), none, none, none] [] [] Γ τ := by
    intro k
    induction k with
    | zero => intro v τ hi hk; omega
    | succ k ih =>
    intro v τ hv1 hk f0 hI
    have hM := hM.fr f0
    refine x_iload d_Mo_renames_3 rfl ?_
    refine x_bipush (v := 100) d_Mo_renames_5 (by decide) ?_
    refine x_icmp_ge (tgt := 32) d_Mo_renames_7 (by decide) (fun c7 => ?_) (fun c7 => ?_)
    · have e : v = 100 := by have := (nI_leI (by decide) (by omega)).mp (show nI 100 ≤ nI v from c7); omega
      subst e
      refine x_iload_n d_Mo_renames_32 rfl rfl ?_
      refine x_iload d_Mo_renames_33 rfl ?_
      refine x_icmp_ne (tgt := 42) d_Mo_renames_35 (by decide) (fun c35 => ?_) (fun c35 => ?_)
      · refine x_iconst (v := 0) d_Mo_renames_42 (by decide) ?_
        refine x_istore d_Mo_renames_43 rfl ?_
        refine x_iconst (v := 0) d_Mo_renames_45 (by decide) ?_
        refine x_istore d_Mo_renames_46 rfl ?_
        first
        | exact Wq.fg (lp (zs.length + 1) 0 false none none τ (by omega) (by omega) f0 (fun z => by cases z) (fun _ => by
            unfold renI
            rw [decide_eq_false (fun z => c35 (by rw [z])), Bool.false_and])) ⟨rfl, rfl, rfl, rfl, rfl, rfl, rfl, rfl, by rw [nI_0], trivial⟩
        | exact Wq.fg (lp (zs.length + 1) 0 true none none τ (by omega) (by omega) f0 (fun _ => ⟨nI_inj c35 (by omega) (by omega), fun j hj => absurd hj (Nat.not_lt_zero _), fun v hv => ⟨by rw [(hI v hv).1]; unfold mpI; rw [if_neg (Nat.not_lt_zero _)], by rw [(hI v hv).2]; unfold mpI; rw [if_neg (Nat.not_lt_zero _)]⟩⟩) (fun z => by cases z)) ⟨rfl, rfl, rfl, rfl, rfl, rfl, rfl, rfl, by rw [nI_0], trivial⟩
      · refine x_iconst (v := 1) d_Mo_renames_38 (by decide) ?_
        refine x_goto (tgt := 43) d_Mo_renames_39 (by decide) ?_
        refine x_istore d_Mo_renames_43 rfl ?_
        refine x_iconst (v := 0) d_Mo_renames_45 (by decide) ?_
        refine x_istore d_Mo_renames_46 rfl ?_
        first
        | exact Wq.fg (lp (zs.length + 1) 0 false none none τ (by omega) (by omega) f0 (fun z => by cases z) (fun _ => by
            unfold renI
            rw [decide_eq_false (fun z => c35 (by rw [z])), Bool.false_and])) ⟨rfl, rfl, rfl, rfl, rfl, rfl, rfl, rfl, by rw [nI_0], trivial⟩
        | exact Wq.fg (lp (zs.length + 1) 0 true none none τ (by omega) (by omega) f0 (fun _ => ⟨nI_inj c35 (by omega) (by omega), fun j hj => absurd hj (Nat.not_lt_zero _), fun v hv => ⟨by rw [(hI v hv).1]; unfold mpI; rw [if_neg (Nat.not_lt_zero _)], by rw [(hI v hv).2]; unfold mpI; rw [if_neg (Nat.not_lt_zero _)]⟩⟩) (fun z => by cases z)) ⟨rfl, rfl, rfl, rfl, rfl, rfl, rfl, rfl, by rw [nI_0], trivial⟩
    · have hv : v < 100 := Nat.not_le.mp fun z => c7 (show nI 100 ≤ nI v from nI_le z (by omega))
      first | refine x_aload_n d_Mo_renames_10 rfl rfl ?_ | refine x_aloadN_n d_Mo_renames_10 rfl rfl ?_ | refine x_aloadE_n d_Mo_renames_10 rfl rfl ?_ | refine x_aloadO_n d_Mo_renames_10 rfl rfl ?_
      refine x_getR d_Mo_renames_11 f_Mo_92 rfl (by first | exact hM.1 | exact hM.s rfl | assumption) (hM.r rfl) ?_
      refine x_iload d_Mo_renames_14 rfl ?_
      refine x_iconst (v := -1) d_Mo_renames_16 (by decide) ?_
      refine x_iast d_Mo_renames_17 (by first | exact hM.1 | exact hM.s rfl | assumption) (vp_in_nI hv (by decide)) ?_
      rw [nI_clamp (by omega)]
      first | refine x_aload_n d_Mo_renames_18 rfl rfl ?_ | refine x_aloadN_n d_Mo_renames_18 rfl rfl ?_ | refine x_aloadE_n d_Mo_renames_18 rfl rfl ?_ | refine x_aloadO_n d_Mo_renames_18 rfl rfl ?_
      refine x_getR d_Mo_renames_19 f_Mo_95 rfl (by first | exact hM.1 | exact hM.s rfl | assumption) (hM.r rfl) ?_
      refine x_iload d_Mo_renames_22 rfl ?_
      refine x_iconst (v := -1) d_Mo_renames_24 (by decide) ?_
      refine x_iast d_Mo_renames_25 (by first | exact hM.1 | exact hM.s rfl | assumption) (vp_in_nI hv (by decide)) ?_
      rw [nI_clamp (by omega)]
      refine x_iinc (v := nI (v + 1)) d_Mo_renames_26 rfl (nI_1 v) rfl ?_
      refine x_goto (tgt := 3) d_Mo_renames_29 (by decide) ?_
      exact Wq.fg (ih (v + 1) _ (by omega) (by omega) ((f0.put (by simp)).put (by simp)) (fun w hw => by
        by_cases e : w = v
        · rw [e, wI_o (by decide), wI_s, wI_s]; exact ⟨rfl, rfl⟩
        · rw [wI_o (by decide), wI_j e, wI_j e, wI_o (by decide)]; exact hI w (by omega))) ⟨rfl, rfl, rfl, rfl, rfl, rfl, rfl, rfl, trivial⟩
  refine Ct.of (lv := [some (rf G 391), some (rf G ca), some (.int (nI pa)), some (.int (nI zs.length)), some (rf G cb), some (.int (nI pb)), some (.int (nI ws.length)), none, none, none, none]) (ll := []) rfl rfl (EN.cat (n := 4) ⟨rfl, rfl, rfl, rfl, rfl, rfl, rfl, trivial⟩ (Nat.le_of_ble_eq_true rfl)) ?_
  refine x_iconst (v := 0) d_Mo_renames_0 (by decide) ?_
  refine x_istore d_Mo_renames_1 rfl ?_
  exact Wq.fg (l0 101 0 σ (by omega) (by omega) FrI.rf (fun w hw => absurd hw (Nat.not_lt_zero _))) ⟨rfl, rfl, rfl, rfl, rfl, rfl, rfl, by rw [nI_0], trivial⟩
