/-! SuperDriverModel: run -/
def rFr (σ τ : Mem) : Prop := FrI [391, 415, 416, 417, 418] σ τ ∧ ∀ j, j ≠ 30 → j ≠ 43 → j ≠ 44 → τ.1 391 j = σ.1 391 j
theorem rFr.tr {σ τ υ : Mem} (h : rFr σ τ) (h2 : rFr τ υ) : rFr σ υ := ⟨h.1.tr h2.1, fun j a b c => (h2.2 j a b c).trans (h.2 j a b c)⟩
theorem rFr.w {σ τ : Mem} {j : Nat} {v : Int32} (h : rFr σ τ) (hj : j = 30 ∨ j = 43 ∨ j = 44) : rFr σ (wI τ 391 j v) := ⟨h.1.put (by simp), fun i a b c => by rw [wI_j (by omega)]; exact h.2 i a b c⟩
theorem Rw.w {τ : Mem} {y : List Int32} {j : Nat} {v : Int32} (h : Rw τ y) (hj : j ≠ 30) : Rw (wI τ 391 j v) y := ⟨by rw [wI_j (fun z => hj z.symm)]; exact h.1, fun i hi => by rw [wI_o (by decide)]; exact h.2 i hi⟩
theorem lsub_c {o : Option Value} {r r' : List (Option Value)} (h : lsub r r') : lsub (o :: r) (o :: r') := by
  cases o with
  | none => exact h
  | some v => exact ⟨rfl, h⟩
theorem nxc_none {cs : Int32 → Bool} : ∀ {zs : List Int32}, nxc cs zs = none → ∀ s ∈ zs, isC s = false
  | [], _, s, hs => by cases hs
  | x :: l, h, s, hs => by
    rw [nxc_c] at h
    split at h
    · cases h
    · next z =>
      have hl : nxc cs l = none := by
        cases e : nxc cs l with
        | none => rfl
        | some q => rw [e] at h; cases h
      have ih := nxc_none hl
      rcases List.mem_cons.mp hs with e | e
      · subst e
        cases hc : isC s with
        | false => rfl
        | true =>
          exfalso
          refine z ?_
          have h0 : isC (l.getD 0 (-1)) = false := by
            cases l with
            | nil => decide
            | cons y l => exact ih y (by simp)
          rw [hc, h0, Bool.and_false]
          rfl
      · exact ih s e
theorem nxc_at {cs : Int32 → Bool} : ∀ {zs : List Int32} {a : Nat}, nxc cs zs = some a → a < zs.length ∧ isC (zs.getD a (-1)) = true
  | [], a, h => by cases h
  | x :: l, a, h => by
    rw [nxc_c] at h
    split at h
    · next z =>
      cases h
      exact ⟨by simp, (Bool.and_eq_true_iff.mp z).1⟩
    · cases e : nxc cs l with
      | none => rw [e] at h; cases h
      | some q =>
        rw [e] at h
        have : a = q + 1 := (Option.some.inj h).symm
        subst this
        have := nxc_at e
        exact ⟨by rw [List.length_cons]; omega, this.2⟩
theorem gR3 {cs : Nat → Bool} {uf : List Int32 → Nat → Bool} {ul : List Int32 → Nat → List Int32} {fuel f m : Nat} {y : List Int32} (h : 200 < y.length) : gRun cs uf ul fuel f m y = (3, m, y) := by
  have e : jdg cs uf y m fuel = 3 := by unfold jdg; rw [if_pos h]
  cases f with
  | zero => unfold gRun; rw [e]
  | succ f => unfold gRun; rw [e, if_neg (by decide)]
theorem gR0 {cs : Nat → Bool} {uf : List Int32 → Nat → Bool} {ul : List Int32 → Nat → List Int32} {fuel f m : Nat} {y : List Int32} (h : y.length ≤ 200) (hn : nxc (sgC cs) y = none) : gRun cs uf ul fuel f m y = (0, m, y) := by
  have e : jdg cs uf y m fuel = 0 := by unfold jdg; rw [if_neg (by omega), List.take_of_length_le h, hn]
  cases f with
  | zero => unfold gRun; rw [e]
  | succ f => unfold gRun; rw [e, if_neg (by decide)]
theorem gR {cs : Nat → Bool} {uf : List Int32 → Nat → Bool} {ul : List Int32 → Nat → List Int32} {fuel f m a : Nat} {y : List Int32} (h : y.length ≤ 200) (hn : nxc (sgC cs) y = some a) (hu : uf y a = false) : gRun cs uf ul fuel f m y = (1, m, y) := by
  have e : jdg cs uf y m fuel = 1 := by unfold jdg; rw [if_neg (by omega), List.take_of_length_le h, hn]; simp only []; rw [if_pos hu]
  cases f with
  | zero => unfold gRun; rw [e]
  | succ f => unfold gRun; rw [e, if_neg (by decide)]
theorem gR2 {cs : Nat → Bool} {uf : List Int32 → Nat → Bool} {ul : List Int32 → Nat → List Int32} {fuel f m a : Nat} {y : List Int32} (h : y.length ≤ 200) (hn : nxc (sgC cs) y = some a) (hu : uf y a = true) (hm : ¬ m < fuel) : gRun cs uf ul fuel f m y = (2, m, y) := by
  have e : jdg cs uf y m fuel = 2 := by unfold jdg; rw [if_neg (by omega), List.take_of_length_le h, hn]; simp only []; rw [if_neg (by rw [hu]; decide), if_neg hm]
  cases f with
  | zero => unfold gRun; rw [e]
  | succ f => unfold gRun; rw [e, if_neg (by decide)]
theorem gR4 {cs : Nat → Bool} {uf : List Int32 → Nat → Bool} {ul : List Int32 → Nat → List Int32} {fuel f m a : Nat} {y : List Int32} (h : y.length ≤ 200) (hn : nxc (sgC cs) y = some a) (hu : uf y a = true) (hm : m < fuel) : gRun cs uf ul fuel (f + 1) m y = gRun cs uf ul fuel f (m + 1) (ul y a) := by
  have e : jdg cs uf y m fuel = 4 := by unfold jdg; rw [if_neg (by omega), List.take_of_length_le h, hn]; simp only []; rw [if_neg (by rw [hu]; decide), if_pos hm]
  show (if jdg cs uf y m fuel = 4 then _ else _) = _
  rw [e, if_pos rfl, List.take_of_length_le h, hn]
set_option maxRecDepth 10000 in
set_option maxHeartbeats 1000000 in
theorem run_g {G : Ctx} {d : Nat} {Γ : List Sh} {σ τ : Mem} {Q : Option Value → List Sh → Mem → Prop} {pt : Nat → Int32} {cs : Nat → Bool} {Inv : List Int32 → Prop} {uf : List Int32 → Nat → Bool} {ul : List Int32 → Nat → List Int32} {fuel : Nat} {R : Int32 × Nat × List Int32} {bb : Bool} {o3 : Option Value} {y0 : List Int32} {o4 : Option Value} (hM : MoS Γ σ) (hfu : fuel ≤ 500) (hOK : SgOK pt cs) (hN : ∀ τ y, rFr σ τ → Rw τ y → Inv y → y.length ≤ 200 → rwO τ pt cs y) (hBd : ∀ τ y a, rFr σ τ → Rw τ y → Inv y → y.length ≤ 200 → nxc (sgC cs) y = some a → ∀ Q' : Option Value → List Sh → Mem → Prop, (uf y a = false → Q' (some (.int (-1))) Γ τ) → (uf y a = true → ∀ k, k < 100000 → Q' (some (.int (nI k))) Γ τ) → Ct G M_Mo_bodyOf (d + 5) 0 0 [rf G 391, .int (nI a)] Γ τ Q') (hUn : ∀ τ y a, rFr σ τ → Rw τ y → Inv y → y.length ≤ 200 → nxc (sgC cs) y = some a → uf y a = true → ∀ Q' : Option Value → List Sh → Mem → Prop, (∀ τ', FrI [391, 415, 416, 417, 418] τ τ' → (∀ j, j ≠ 30 → τ'.1 391 j = τ.1 391 j) → Rw τ' (ul y a) → Inv (ul y a) → (ul y a).length ≤ 20400 → Q' none Γ τ') → Ct G M_Mo_unfold (d + 5) 0 0 [rf G 391, .int (nI a)] Γ τ Q') (hK0 : ∀ y, Inv y → nxc (sgC cs) y = none → al kA y) (hQ : ∀ τ, FrI [391, 415, 416, 417, 418, 425] σ τ → (∀ j, j ≠ 30 → j ≠ 43 → j ≠ 44 → j ≠ 45 → τ.1 391 j = σ.1 391 j) → τ.1 391 43 = R.1 → τ.1 391 44 = nI R.2.1 → (R.1 = 0 → (al kA R.2.2 ∧ R.2.2.length ≤ 200) ∧ τ.1 391 45 = nI R.2.2.length ∧ ∀ i, i < R.2.2.length → τ.1 425 i = R.2.2.getD i (-1) - 100) → Q (some (.int R.1)) Γ τ) (f1 : rFr σ τ) (hr0 : Rw τ y0) (hI0 : Inv y0) (hl0 : y0.length ≤ 20400) (hg0 : gRun cs uf ul fuel fuel 0 y0 = R) : Wq G M_Mo_run (Em G (d + 6) 0 0 Q) 0 0 67 [some (rf G 391), some (.int (bI bb)), some (.int (nI fuel)), o3, o4] [] [] Γ τ := by
  have l200 : ∀ (υ : Mem) (y : List Int32) (e : Int32), MoS Γ υ → Rw υ y → y.length ≤ 20400 → υ.1 391 43 = e → (e = 0 → al kA y ∧ y.length ≤ 200) → (∀ τ, FrI [425] υ τ → (∀ j, τ.1 391 j = υ.1 391 j) → (e = 0 → ∀ i, i < y.length → τ.1 425 i = y.getD i (-1) - 100) → Q (some (.int e)) Γ τ) → ∀ (f i : Nat) (τ : Mem), i ≤ y.length → y.length < i + f → FrI [425] υ τ → (∀ j, τ.1 391 j = υ.1 391 j) → (∀ j, j < i → τ.1 425 j = y.getD j (-1) - 100) → Wq G M_Mo_run (Em G (d + 6) 0 0 Q) 0 0 200 [some (rf G 391), some (.int (bI bb)), some (.int (nI fuel)), o3, some (.int (nI i))] [] [] Γ τ := by
    intro υ y e hMυ hrow0 hyl h430 hy0 hend f
    induction f with
    | zero => intro i τ hi hf; omega
    | succ f ih =>
    intro i τ hi hf f0 f2 h3
    have hM := hMυ.fr f0
    have hrow := hrow0.fr f0 (by simp) (by simp)
    have h43 : τ.1 391 43 = e := by rw [f2]; exact h430
    refine x_iload d_Mo_run_200 rfl ?_
    first | refine x_aload_n d_Mo_run_202 rfl rfl ?_ | refine x_aloadN_n d_Mo_run_202 rfl rfl ?_ | refine x_aloadE_n d_Mo_run_202 rfl rfl ?_ | refine x_aloadO_n d_Mo_run_202 rfl rfl ?_
    refine x_getI d_Mo_run_203 f_Mo_157 rfl (by first | exact hM.1 | exact hM.s rfl | assumption) ?_
    rw [hrow.1]
    refine x_icmp_ge (tgt := 239) d_Mo_run_206 (by decide) (fun c206 => ?_) (fun c206 => ?_)
    · have e : i = y.length := by have := (nI_leI (by omega) (by omega)).mp c206; omega
      subst e
      refine x_aload_n d_Mo_run_239 rfl rfl ?_
      refine x_getI d_Mo_run_240 f_Mo_110 rfl (by exact hM.1) ?_
      rw [h43]
      exact x_ireturn d_Mo_run_243 rfl (by first | rfl | decide) (hend τ f0 f2 (fun _ => h3))
    · first | refine x_aload_n d_Mo_run_209 rfl rfl ?_ | refine x_aloadN_n d_Mo_run_209 rfl rfl ?_ | refine x_aloadE_n d_Mo_run_209 rfl rfl ?_ | refine x_aloadO_n d_Mo_run_209 rfl rfl ?_
      refine x_getI d_Mo_run_210 f_Mo_110 rfl (by first | exact hM.1 | exact hM.s rfl | assumption) ?_
      rw [h43]
      refine x_if_ne (tgt := 239) d_Mo_run_213 (by decide) (fun c213 => ?_) (fun c213 => ?_)
      · refine x_aload_n d_Mo_run_239 rfl rfl ?_
        refine x_getI d_Mo_run_240 f_Mo_110 rfl (by exact hM.1) ?_
        rw [h43]
        exact x_ireturn d_Mo_run_243 rfl (by first | rfl | decide) (hend τ f0 f2 (fun z => absurd z c213))
      · have hil : i < y.length := Nat.not_le.mp fun z => c206 (nI_le z (by omega))
        have hy2 := (hy0 c213).2
        first | refine x_aload_n d_Mo_run_216 rfl rfl ?_ | refine x_aloadN_n d_Mo_run_216 rfl rfl ?_ | refine x_aloadE_n d_Mo_run_216 rfl rfl ?_ | refine x_aloadO_n d_Mo_run_216 rfl rfl ?_
        refine x_getR d_Mo_run_217 f_Mo_114 rfl (by first | exact hM.1 | exact hM.s rfl | assumption) (hM.r rfl) ?_
        refine x_iload d_Mo_run_220 rfl ?_
        first | refine x_aload_n d_Mo_run_222 rfl rfl ?_ | refine x_aloadN_n d_Mo_run_222 rfl rfl ?_ | refine x_aloadE_n d_Mo_run_222 rfl rfl ?_ | refine x_aloadO_n d_Mo_run_222 rfl rfl ?_
        refine x_getR d_Mo_run_223 f_Mo_80 rfl (by first | exact hM.1 | exact hM.s rfl | assumption) (hM.r rfl) ?_
        refine x_iload d_Mo_run_226 rfl ?_
        refine x_iald d_Mo_run_228 (by first | exact hM.1 | exact hM.s rfl | assumption) (vp_in_nI (show i < 20400 by omega) (by decide)) ?_
        rw [nI_clamp (by omega), show τ.1 415 i = y.getD i (-1) by have := hrow.2 i hil; rw [Nat.zero_add] at this; exact this]
        refine x_bipush (v := 100) d_Mo_run_229 (by decide) ?_
        refine x_isub d_Mo_run_231 ?_
        refine x_iast d_Mo_run_232 (by first | exact hM.1 | exact hM.s rfl | assumption) (vp_in_nI (show i < 200 by omega) (by decide)) ?_
        rw [nI_clamp (by omega)]
        refine x_iinc (v := nI (i + 1)) d_Mo_run_233 rfl (nI_1 i) rfl ?_
        refine x_goto (tgt := 200) d_Mo_run_236 (by decide) ?_
        exact Wq.fg (ih (i + 1) _ (by omega) (by omega) (f0.put (by simp)) (fun j => by rw [wI_o (by decide)]; exact f2 j) (fun j hj => by
          by_cases e : j = i
          · rw [e, wI_s]
          · rw [wI_j e]; exact h3 j (by omega))) lsub_rf
  have l189 : ∀ (τ : Mem) (o4 : Option Value), rFr σ τ → Rw τ R.2.2 → R.2.2.length ≤ 20400 → τ.1 391 43 = R.1 → τ.1 391 44 = nI R.2.1 → (R.1 = 0 → al kA R.2.2 ∧ R.2.2.length ≤ 200) → Wq G M_Mo_run (Em G (d + 6) 0 0 Q) 0 0 189 [some (rf G 391), some (.int (bI bb)), some (.int (nI fuel)), o3, o4] [] [] Γ τ := by
    intro τ o4 f0 hrow hyl h43 h44 hy0
    have hM := hM.fr f0.1
    first | refine x_aload_n d_Mo_run_189 rfl rfl ?_ | refine x_aloadN_n d_Mo_run_189 rfl rfl ?_ | refine x_aloadE_n d_Mo_run_189 rfl rfl ?_ | refine x_aloadO_n d_Mo_run_189 rfl rfl ?_
    first | refine x_aload_n d_Mo_run_190 rfl rfl ?_ | refine x_aloadN_n d_Mo_run_190 rfl rfl ?_ | refine x_aloadE_n d_Mo_run_190 rfl rfl ?_ | refine x_aloadO_n d_Mo_run_190 rfl rfl ?_
    refine x_getI d_Mo_run_191 f_Mo_157 rfl (by first | exact hM.1 | exact hM.s rfl | assumption) ?_
    rw [hrow.1]
    refine x_putI d_Mo_run_194 (w_Mo_m_292 _) rfl (by first | rfl | decide) (by first | rfl | decide) (by first | exact hM.1 | exact hM.s rfl | assumption) ?_
    refine x_iconst (v := 0) d_Mo_run_197 (by decide) ?_
    refine x_istore d_Mo_run_198 rfl ?_
    refine Wq.fg (l200 _ R.2.2 R.1 hM.w (hrow.w (by decide)) hyl (by rw [wI_j (by decide)]; exact h43) hy0 (fun τ1 f1 g1 g2 => hQ τ1 (((f0.1.mono (by simp)).put (by simp)).tr (f1.mono (by simp))) (fun j a b c d => by rw [g1, wI_j d]; exact f0.2 j a b c) (by rw [g1, wI_j (by decide)]; exact h43) (by rw [g1, wI_j (by decide)]; exact h44) (fun z => ⟨hy0 z, by rw [g1, wI_s], g2 z⟩)) (R.2.2.length + 1) 0 _ (by omega) (by omega) FrI.rf (fun _ => rfl) (fun j hj => absurd hj (Nat.not_lt_zero _))) ⟨rfl, rfl, rfl, lsub_c ⟨by rw [nI_0], trivial⟩⟩
  have l77e : ∀ (τ : Mem) (o4 : Option Value), rFr σ τ → Rw τ R.2.2 → R.2.2.length ≤ 20400 → τ.1 391 43 = R.1 → (0 : Int32) ≤ R.1 → τ.1 391 44 = nI R.2.1 → (R.1 = 0 → al kA R.2.2 ∧ R.2.2.length ≤ 200) → Wq G M_Mo_run (Em G (d + 6) 0 0 Q) 0 0 77 [some (rf G 391), some (.int (bI bb)), some (.int (nI fuel)), o3, o4] [] [] Γ τ := by
    intro τ o4 f0 hrow hyl h43 hge h44 hy0
    have hM := hM.fr f0.1
    first | refine x_aload_n d_Mo_run_77 rfl rfl ?_ | refine x_aloadN_n d_Mo_run_77 rfl rfl ?_ | refine x_aloadE_n d_Mo_run_77 rfl rfl ?_ | refine x_aloadO_n d_Mo_run_77 rfl rfl ?_
    refine x_getI d_Mo_run_78 f_Mo_110 rfl (by first | exact hM.1 | exact hM.s rfl | assumption) ?_
    rw [h43]
    refine x_if_ge (tgt := 189) d_Mo_run_81 (by decide) (fun c81 => ?_) (fun c81 => ?_)
    · exact Wq.fg (l189 τ o4 f0 hrow hyl h43 h44 hy0) lsub_rf
    · exact absurd hge c81
  have l77 : ∀ (r f : Nat), f ≤ r → ∀ (m : Nat) (y : List Int32) (τ : Mem) (o4 : Option Value), m + f = fuel → rFr σ τ → Rw τ y → Inv y → y.length ≤ 20400 → τ.1 391 43 = -1 → τ.1 391 44 = nI m → gRun cs uf ul fuel f m y = R → Wq G M_Mo_run (Em G (d + 6) 0 0 Q) 0 0 77 [some (rf G 391), some (.int (bI bb)), some (.int (nI fuel)), o3, o4] [] [] Γ τ := by
    intro r
    induction r with
    | zero =>
      intro f hf m y τ o4 hm f0 hrow hI hyl h43 h44 hg
      have hM := hM.fr f0.1
      refine x_aload_n d_Mo_run_77 rfl rfl ?_
      refine x_getI d_Mo_run_78 f_Mo_110 rfl (by exact hM.1) ?_
      rw [h43]
      refine x_if_ge (tgt := 189) d_Mo_run_81 (by decide) (fun c81 => ?_) (fun c81 => ?_)
      · exact absurd c81 (by decide)
      by_cases hy200 : y.length ≤ 200
      · rcases hn : nxc (sgC cs) y with _ | a
        · have eR : R = (0, m, y) := by
            rw [← hg, gR0 hy200 hn]
          first | refine x_aload_n d_Mo_run_84 rfl rfl ?_ | refine x_aloadN_n d_Mo_run_84 rfl rfl ?_ | refine x_aloadE_n d_Mo_run_84 rfl rfl ?_ | refine x_aloadO_n d_Mo_run_84 rfl rfl ?_
          refine x_getI d_Mo_run_85 f_Mo_157 rfl (by first | exact hM.1 | exact hM.s rfl | assumption) ?_
          refine x_sipush (v := 200) d_Mo_run_88 (by decide) ?_
          rw [hrow.1]
          refine x_icmp_le (tgt := 98) d_Mo_run_91 (by decide) (fun c91 => ?_) (fun c91 => ?_)
          · first | refine x_aload_n d_Mo_run_98 rfl rfl ?_ | refine x_aloadN_n d_Mo_run_98 rfl rfl ?_ | refine x_aloadE_n d_Mo_run_98 rfl rfl ?_ | refine x_aloadO_n d_Mo_run_98 rfl rfl ?_
            refine x_callV0 d_Mo_run_99 k_Mo_nextCall l_Mo_243 v_Mo_nextCall rfl s_Mo_nextCall (by first | exact hM.1 | exact hM.s rfl | assumption) RoomE.m (Nat.le_of_ble_eq_true rfl) (c_Mo_nextCall hM hOK (hN τ y f0 hrow hI hy200) ?_)
            rw [hn]
            refine x_istore d_Mo_run_102 rfl ?_
            first | refine x_aload_n d_Mo_run_104 rfl rfl ?_ | refine x_aloadN_n d_Mo_run_104 rfl rfl ?_ | refine x_aloadE_n d_Mo_run_104 rfl rfl ?_ | refine x_aloadO_n d_Mo_run_104 rfl rfl ?_
            refine x_getI d_Mo_run_105 f_Mo_157 rfl (by first | exact hM.1 | exact hM.s rfl | assumption) ?_
            refine x_sipush (v := 200) d_Mo_run_108 (by decide) ?_
            rw [hrow.1]
            refine x_icmp_le (tgt := 122) d_Mo_run_111 (by decide) (fun c111 => ?_) (fun c111 => ?_)
            · refine x_iload d_Mo_run_122 rfl ?_
              refine x_iconst (v := -1) d_Mo_run_124 (by decide) ?_
              skip
              refine x_icmp_ne (tgt := 136) d_Mo_run_125 (by decide) (fun c125 => ?_) (fun c125 => ?_)
              · exact absurd rfl c125
              · first | refine x_aload_n d_Mo_run_128 rfl rfl ?_ | refine x_aloadN_n d_Mo_run_128 rfl rfl ?_ | refine x_aloadE_n d_Mo_run_128 rfl rfl ?_ | refine x_aloadO_n d_Mo_run_128 rfl rfl ?_
                refine x_iconst (v := 0) d_Mo_run_129 (by decide) ?_
                refine x_putI d_Mo_run_130 (w_Mo_m_110 _) rfl (by first | rfl | decide) (by first | rfl | decide) (by first | exact hM.1 | exact hM.s rfl | assumption) ?_
                refine x_goto (tgt := 186) d_Mo_run_133 (by decide) ?_
                refine x_goto (tgt := 77) d_Mo_run_186 (by decide) ?_
                exact Wq.fg (l77e _ _ (f0.w (by simp)) (by rw [eR]; exact hrow.w (by decide)) (by rw [eR]; exact hyl) (by rw [eR, wI_s]) (by rw [eR]; show (0 : Int32) ≤ 0; decide) (by rw [eR, wI_j (by decide)]; exact h44) (by rw [eR]; exact fun _ => ⟨hK0 y hI hn, hy200⟩)) lsub_rf
            · exact absurd (show nI y.length ≤ nI 200 from nI_le (by omega) (by omega)) c111
          · exact absurd (show nI y.length ≤ nI 200 from nI_le (by omega) (by omega)) c91
        · have hal := nxc_at hn
          first | refine x_aload_n d_Mo_run_84 rfl rfl ?_ | refine x_aloadN_n d_Mo_run_84 rfl rfl ?_ | refine x_aloadE_n d_Mo_run_84 rfl rfl ?_ | refine x_aloadO_n d_Mo_run_84 rfl rfl ?_
          refine x_getI d_Mo_run_85 f_Mo_157 rfl (by first | exact hM.1 | exact hM.s rfl | assumption) ?_
          refine x_sipush (v := 200) d_Mo_run_88 (by decide) ?_
          rw [hrow.1]
          refine x_icmp_le (tgt := 98) d_Mo_run_91 (by decide) (fun c91 => ?_) (fun c91 => ?_)
          · first | refine x_aload_n d_Mo_run_98 rfl rfl ?_ | refine x_aloadN_n d_Mo_run_98 rfl rfl ?_ | refine x_aloadE_n d_Mo_run_98 rfl rfl ?_ | refine x_aloadO_n d_Mo_run_98 rfl rfl ?_
            refine x_callV0 d_Mo_run_99 k_Mo_nextCall l_Mo_243 v_Mo_nextCall rfl s_Mo_nextCall (by first | exact hM.1 | exact hM.s rfl | assumption) RoomE.m (Nat.le_of_ble_eq_true rfl) (c_Mo_nextCall hM hOK (hN τ y f0 hrow hI hy200) ?_)
            rw [hn]
            refine x_istore d_Mo_run_102 rfl ?_
            first | refine x_aload_n d_Mo_run_104 rfl rfl ?_ | refine x_aloadN_n d_Mo_run_104 rfl rfl ?_ | refine x_aloadE_n d_Mo_run_104 rfl rfl ?_ | refine x_aloadO_n d_Mo_run_104 rfl rfl ?_
            refine x_getI d_Mo_run_105 f_Mo_157 rfl (by first | exact hM.1 | exact hM.s rfl | assumption) ?_
            refine x_sipush (v := 200) d_Mo_run_108 (by decide) ?_
            rw [hrow.1]
            refine x_icmp_le (tgt := 122) d_Mo_run_111 (by decide) (fun c111 => ?_) (fun c111 => ?_)
            · refine x_iload d_Mo_run_122 rfl ?_
              refine x_iconst (v := -1) d_Mo_run_124 (by decide) ?_
              show Wq _ _ _ _ _ _ _ _ (.int _ :: .int (nI a) :: _) _ _
              refine x_icmp_ne (tgt := 136) d_Mo_run_125 (by decide) (fun c125 => ?_) (fun c125 => ?_)
              · first | refine x_aload_n d_Mo_run_136 rfl rfl ?_ | refine x_aloadN_n d_Mo_run_136 rfl rfl ?_ | refine x_aloadE_n d_Mo_run_136 rfl rfl ?_ | refine x_aloadO_n d_Mo_run_136 rfl rfl ?_
                refine x_iload d_Mo_run_137 rfl ?_
                refine x_callV1 d_Mo_run_139 k_Mo_bodyOf l_Mo_171 v_Mo_bodyOf rfl s_Mo_bodyOf (by first | exact hM.1 | exact hM.s rfl | assumption) RoomE.m (Nat.le_of_ble_eq_true rfl) (hBd τ y a f0 hrow hI hy200 hn _ (fun hu => ?_) (fun hu k hk => ?_))
                · have eR : R = (1, m, y) := by
                    rw [← hg, gR hy200 hn hu]
                  refine x_iconst (v := -1) d_Mo_run_142 (by decide) ?_
                  refine x_icmp_ne (tgt := 154) d_Mo_run_143 (by decide) (fun c143 => ?_) (fun c143 => ?_)
                  · exact absurd rfl c143
                  · first | refine x_aload_n d_Mo_run_146 rfl rfl ?_ | refine x_aloadN_n d_Mo_run_146 rfl rfl ?_ | refine x_aloadE_n d_Mo_run_146 rfl rfl ?_ | refine x_aloadO_n d_Mo_run_146 rfl rfl ?_
                    refine x_iconst (v := 1) d_Mo_run_147 (by decide) ?_
                    refine x_putI d_Mo_run_148 (w_Mo_m_110 _) rfl (by first | rfl | decide) (by first | rfl | decide) (by first | exact hM.1 | exact hM.s rfl | assumption) ?_
                    refine x_goto (tgt := 186) d_Mo_run_151 (by decide) ?_
                    refine x_goto (tgt := 77) d_Mo_run_186 (by decide) ?_
                    exact Wq.fg (l77e _ _ (f0.w (by simp)) (by rw [eR]; exact hrow.w (by decide)) (by rw [eR]; exact hyl) (by rw [eR, wI_s]) (by rw [eR]; show (0 : Int32) ≤ 1; decide) (by rw [eR, wI_j (by decide)]; exact h44) (by rw [eR]; exact fun z => absurd (show (1 : Int32) = 0 from z) (by decide))) lsub_rf
                · refine x_iconst (v := -1) d_Mo_run_142 (by decide) ?_
                  refine x_icmp_ne (tgt := 154) d_Mo_run_143 (by decide) (fun c143 => ?_) (fun c143 => ?_)
                  · first | refine x_aload_n d_Mo_run_154 rfl rfl ?_ | refine x_aloadN_n d_Mo_run_154 rfl rfl ?_ | refine x_aloadE_n d_Mo_run_154 rfl rfl ?_ | refine x_aloadO_n d_Mo_run_154 rfl rfl ?_
                    refine x_getI d_Mo_run_155 f_Mo_142 rfl (by first | exact hM.1 | exact hM.s rfl | assumption) ?_
                    refine x_iload_n d_Mo_run_158 rfl rfl ?_
                    rw [h44]
                    refine x_icmp_ne (tgt := 170) d_Mo_run_159 (by decide) (fun c159 => ?_) (fun c159 => ?_)
                    · exact absurd (by rw [show m = fuel by omega]) c159
                    · have emf : m = fuel := nI_inj c159 (by omega) (by omega)
                      have eR : R = (2, m, y) := by
                        rw [← hg, gR2 hy200 hn hu (by omega)]
                      first | refine x_aload_n d_Mo_run_162 rfl rfl ?_ | refine x_aloadN_n d_Mo_run_162 rfl rfl ?_ | refine x_aloadE_n d_Mo_run_162 rfl rfl ?_ | refine x_aloadO_n d_Mo_run_162 rfl rfl ?_
                      refine x_iconst (v := 2) d_Mo_run_163 (by decide) ?_
                      refine x_putI d_Mo_run_164 (w_Mo_m_110 _) rfl (by first | rfl | decide) (by first | rfl | decide) (by first | exact hM.1 | exact hM.s rfl | assumption) ?_
                      refine x_goto (tgt := 186) d_Mo_run_167 (by decide) ?_
                      refine x_goto (tgt := 77) d_Mo_run_186 (by decide) ?_
                      exact Wq.fg (l77e _ _ (f0.w (by simp)) (by rw [eR]; exact hrow.w (by decide)) (by rw [eR]; exact hyl) (by rw [eR, wI_s]) (by rw [eR]; show (0 : Int32) ≤ 2; decide) (by rw [eR, wI_j (by decide)]; exact h44) (by rw [eR]; exact fun z => absurd (show (2 : Int32) = 0 from z) (by decide))) lsub_rf
                  · exact absurd c143 (nI_nm1 (by omega))
              · exact absurd c125 (nI_nm1 (by omega))
            · exact absurd (show nI y.length ≤ nI 200 from nI_le (by omega) (by omega)) c111
          · exact absurd (show nI y.length ≤ nI 200 from nI_le (by omega) (by omega)) c91
      · have eR : R = (3, m, y) := by
          rw [← hg, gR3 (by omega)]
        first | refine x_aload_n d_Mo_run_84 rfl rfl ?_ | refine x_aloadN_n d_Mo_run_84 rfl rfl ?_ | refine x_aloadE_n d_Mo_run_84 rfl rfl ?_ | refine x_aloadO_n d_Mo_run_84 rfl rfl ?_
        refine x_getI d_Mo_run_85 f_Mo_157 rfl (by first | exact hM.1 | exact hM.s rfl | assumption) ?_
        refine x_sipush (v := 200) d_Mo_run_88 (by decide) ?_
        rw [hrow.1]
        refine x_icmp_le (tgt := 98) d_Mo_run_91 (by decide) (fun c91 => ?_) (fun c91 => ?_)
        · exact absurd ((nI_leI (by omega) (by decide)).mp (show nI y.length ≤ nI 200 from c91)) (by omega)
        · refine x_iconst (v := -1) d_Mo_run_94 (by decide) ?_
          refine x_goto (tgt := 102) d_Mo_run_95 (by decide) ?_
          refine x_istore d_Mo_run_102 rfl ?_
          first | refine x_aload_n d_Mo_run_104 rfl rfl ?_ | refine x_aloadN_n d_Mo_run_104 rfl rfl ?_ | refine x_aloadE_n d_Mo_run_104 rfl rfl ?_ | refine x_aloadO_n d_Mo_run_104 rfl rfl ?_
          refine x_getI d_Mo_run_105 f_Mo_157 rfl (by first | exact hM.1 | exact hM.s rfl | assumption) ?_
          refine x_sipush (v := 200) d_Mo_run_108 (by decide) ?_
          rw [hrow.1]
          refine x_icmp_le (tgt := 122) d_Mo_run_111 (by decide) (fun c111 => ?_) (fun c111 => ?_)
          · exact absurd ((nI_leI (by omega) (by decide)).mp (show nI y.length ≤ nI 200 from c111)) (by omega)
          · first | refine x_aload_n d_Mo_run_114 rfl rfl ?_ | refine x_aloadN_n d_Mo_run_114 rfl rfl ?_ | refine x_aloadE_n d_Mo_run_114 rfl rfl ?_ | refine x_aloadO_n d_Mo_run_114 rfl rfl ?_
            refine x_iconst (v := 3) d_Mo_run_115 (by decide) ?_
            refine x_putI d_Mo_run_116 (w_Mo_m_110 _) rfl (by first | rfl | decide) (by first | rfl | decide) (by first | exact hM.1 | exact hM.s rfl | assumption) ?_
            refine x_goto (tgt := 186) d_Mo_run_119 (by decide) ?_
            refine x_goto (tgt := 77) d_Mo_run_186 (by decide) ?_
            exact Wq.fg (l77e _ _ (f0.w (by simp)) (by rw [eR]; exact hrow.w (by decide)) (by rw [eR]; exact hyl) (by rw [eR, wI_s]) (by rw [eR]; show (0 : Int32) ≤ 3; decide) (by rw [eR, wI_j (by decide)]; exact h44) (by rw [eR]; exact fun z => absurd (show (3 : Int32) = 0 from z) (by decide))) lsub_rf
    | succ r ih' =>
      intro f hf m y τ o4 hm f0 hrow hI hyl h43 h44 hg
      have hM := hM.fr f0.1
      have ih := fun (f : Nat) (h : f ≤ r) => ih' f h
      refine x_aload_n d_Mo_run_77 rfl rfl ?_
      refine x_getI d_Mo_run_78 f_Mo_110 rfl (by exact hM.1) ?_
      rw [h43]
      refine x_if_ge (tgt := 189) d_Mo_run_81 (by decide) (fun c81 => ?_) (fun c81 => ?_)
      · exact absurd c81 (by decide)
      by_cases hy200 : y.length ≤ 200
      · rcases hn : nxc (sgC cs) y with _ | a
        · have eR : R = (0, m, y) := by
            rw [← hg, gR0 hy200 hn]
          first | refine x_aload_n d_Mo_run_84 rfl rfl ?_ | refine x_aloadN_n d_Mo_run_84 rfl rfl ?_ | refine x_aloadE_n d_Mo_run_84 rfl rfl ?_ | refine x_aloadO_n d_Mo_run_84 rfl rfl ?_
          refine x_getI d_Mo_run_85 f_Mo_157 rfl (by first | exact hM.1 | exact hM.s rfl | assumption) ?_
          refine x_sipush (v := 200) d_Mo_run_88 (by decide) ?_
          rw [hrow.1]
          refine x_icmp_le (tgt := 98) d_Mo_run_91 (by decide) (fun c91 => ?_) (fun c91 => ?_)
          · first | refine x_aload_n d_Mo_run_98 rfl rfl ?_ | refine x_aloadN_n d_Mo_run_98 rfl rfl ?_ | refine x_aloadE_n d_Mo_run_98 rfl rfl ?_ | refine x_aloadO_n d_Mo_run_98 rfl rfl ?_
            refine x_callV0 d_Mo_run_99 k_Mo_nextCall l_Mo_243 v_Mo_nextCall rfl s_Mo_nextCall (by first | exact hM.1 | exact hM.s rfl | assumption) RoomE.m (Nat.le_of_ble_eq_true rfl) (c_Mo_nextCall hM hOK (hN τ y f0 hrow hI hy200) ?_)
            rw [hn]
            refine x_istore d_Mo_run_102 rfl ?_
            first | refine x_aload_n d_Mo_run_104 rfl rfl ?_ | refine x_aloadN_n d_Mo_run_104 rfl rfl ?_ | refine x_aloadE_n d_Mo_run_104 rfl rfl ?_ | refine x_aloadO_n d_Mo_run_104 rfl rfl ?_
            refine x_getI d_Mo_run_105 f_Mo_157 rfl (by first | exact hM.1 | exact hM.s rfl | assumption) ?_
            refine x_sipush (v := 200) d_Mo_run_108 (by decide) ?_
            rw [hrow.1]
            refine x_icmp_le (tgt := 122) d_Mo_run_111 (by decide) (fun c111 => ?_) (fun c111 => ?_)
            · refine x_iload d_Mo_run_122 rfl ?_
              refine x_iconst (v := -1) d_Mo_run_124 (by decide) ?_
              skip
              refine x_icmp_ne (tgt := 136) d_Mo_run_125 (by decide) (fun c125 => ?_) (fun c125 => ?_)
              · exact absurd rfl c125
              · first | refine x_aload_n d_Mo_run_128 rfl rfl ?_ | refine x_aloadN_n d_Mo_run_128 rfl rfl ?_ | refine x_aloadE_n d_Mo_run_128 rfl rfl ?_ | refine x_aloadO_n d_Mo_run_128 rfl rfl ?_
                refine x_iconst (v := 0) d_Mo_run_129 (by decide) ?_
                refine x_putI d_Mo_run_130 (w_Mo_m_110 _) rfl (by first | rfl | decide) (by first | rfl | decide) (by first | exact hM.1 | exact hM.s rfl | assumption) ?_
                refine x_goto (tgt := 186) d_Mo_run_133 (by decide) ?_
                refine x_goto (tgt := 77) d_Mo_run_186 (by decide) ?_
                exact Wq.fg (l77e _ _ (f0.w (by simp)) (by rw [eR]; exact hrow.w (by decide)) (by rw [eR]; exact hyl) (by rw [eR, wI_s]) (by rw [eR]; show (0 : Int32) ≤ 0; decide) (by rw [eR, wI_j (by decide)]; exact h44) (by rw [eR]; exact fun _ => ⟨hK0 y hI hn, hy200⟩)) lsub_rf
            · exact absurd (show nI y.length ≤ nI 200 from nI_le (by omega) (by omega)) c111
          · exact absurd (show nI y.length ≤ nI 200 from nI_le (by omega) (by omega)) c91
        · have hal := nxc_at hn
          first | refine x_aload_n d_Mo_run_84 rfl rfl ?_ | refine x_aloadN_n d_Mo_run_84 rfl rfl ?_ | refine x_aloadE_n d_Mo_run_84 rfl rfl ?_ | refine x_aloadO_n d_Mo_run_84 rfl rfl ?_
          refine x_getI d_Mo_run_85 f_Mo_157 rfl (by first | exact hM.1 | exact hM.s rfl | assumption) ?_
          refine x_sipush (v := 200) d_Mo_run_88 (by decide) ?_
          rw [hrow.1]
          refine x_icmp_le (tgt := 98) d_Mo_run_91 (by decide) (fun c91 => ?_) (fun c91 => ?_)
          · first | refine x_aload_n d_Mo_run_98 rfl rfl ?_ | refine x_aloadN_n d_Mo_run_98 rfl rfl ?_ | refine x_aloadE_n d_Mo_run_98 rfl rfl ?_ | refine x_aloadO_n d_Mo_run_98 rfl rfl ?_
            refine x_callV0 d_Mo_run_99 k_Mo_nextCall l_Mo_243 v_Mo_nextCall rfl s_Mo_nextCall (by first | exact hM.1 | exact hM.s rfl | assumption) RoomE.m (Nat.le_of_ble_eq_true rfl) (c_Mo_nextCall hM hOK (hN τ y f0 hrow hI hy200) ?_)
            rw [hn]
            refine x_istore d_Mo_run_102 rfl ?_
            first | refine x_aload_n d_Mo_run_104 rfl rfl ?_ | refine x_aloadN_n d_Mo_run_104 rfl rfl ?_ | refine x_aloadE_n d_Mo_run_104 rfl rfl ?_ | refine x_aloadO_n d_Mo_run_104 rfl rfl ?_
            refine x_getI d_Mo_run_105 f_Mo_157 rfl (by first | exact hM.1 | exact hM.s rfl | assumption) ?_
            refine x_sipush (v := 200) d_Mo_run_108 (by decide) ?_
            rw [hrow.1]
            refine x_icmp_le (tgt := 122) d_Mo_run_111 (by decide) (fun c111 => ?_) (fun c111 => ?_)
            · refine x_iload d_Mo_run_122 rfl ?_
              refine x_iconst (v := -1) d_Mo_run_124 (by decide) ?_
              show Wq _ _ _ _ _ _ _ _ (.int _ :: .int (nI a) :: _) _ _
              refine x_icmp_ne (tgt := 136) d_Mo_run_125 (by decide) (fun c125 => ?_) (fun c125 => ?_)
              · first | refine x_aload_n d_Mo_run_136 rfl rfl ?_ | refine x_aloadN_n d_Mo_run_136 rfl rfl ?_ | refine x_aloadE_n d_Mo_run_136 rfl rfl ?_ | refine x_aloadO_n d_Mo_run_136 rfl rfl ?_
                refine x_iload d_Mo_run_137 rfl ?_
                refine x_callV1 d_Mo_run_139 k_Mo_bodyOf l_Mo_171 v_Mo_bodyOf rfl s_Mo_bodyOf (by first | exact hM.1 | exact hM.s rfl | assumption) RoomE.m (Nat.le_of_ble_eq_true rfl) (hBd τ y a f0 hrow hI hy200 hn _ (fun hu => ?_) (fun hu k hk => ?_))
                · have eR : R = (1, m, y) := by
                    rw [← hg, gR hy200 hn hu]
                  refine x_iconst (v := -1) d_Mo_run_142 (by decide) ?_
                  refine x_icmp_ne (tgt := 154) d_Mo_run_143 (by decide) (fun c143 => ?_) (fun c143 => ?_)
                  · exact absurd rfl c143
                  · first | refine x_aload_n d_Mo_run_146 rfl rfl ?_ | refine x_aloadN_n d_Mo_run_146 rfl rfl ?_ | refine x_aloadE_n d_Mo_run_146 rfl rfl ?_ | refine x_aloadO_n d_Mo_run_146 rfl rfl ?_
                    refine x_iconst (v := 1) d_Mo_run_147 (by decide) ?_
                    refine x_putI d_Mo_run_148 (w_Mo_m_110 _) rfl (by first | rfl | decide) (by first | rfl | decide) (by first | exact hM.1 | exact hM.s rfl | assumption) ?_
                    refine x_goto (tgt := 186) d_Mo_run_151 (by decide) ?_
                    refine x_goto (tgt := 77) d_Mo_run_186 (by decide) ?_
                    exact Wq.fg (l77e _ _ (f0.w (by simp)) (by rw [eR]; exact hrow.w (by decide)) (by rw [eR]; exact hyl) (by rw [eR, wI_s]) (by rw [eR]; show (0 : Int32) ≤ 1; decide) (by rw [eR, wI_j (by decide)]; exact h44) (by rw [eR]; exact fun z => absurd (show (1 : Int32) = 0 from z) (by decide))) lsub_rf
                · refine x_iconst (v := -1) d_Mo_run_142 (by decide) ?_
                  refine x_icmp_ne (tgt := 154) d_Mo_run_143 (by decide) (fun c143 => ?_) (fun c143 => ?_)
                  · first | refine x_aload_n d_Mo_run_154 rfl rfl ?_ | refine x_aloadN_n d_Mo_run_154 rfl rfl ?_ | refine x_aloadE_n d_Mo_run_154 rfl rfl ?_ | refine x_aloadO_n d_Mo_run_154 rfl rfl ?_
                    refine x_getI d_Mo_run_155 f_Mo_142 rfl (by first | exact hM.1 | exact hM.s rfl | assumption) ?_
                    refine x_iload_n d_Mo_run_158 rfl rfl ?_
                    rw [h44]
                    refine x_icmp_ne (tgt := 170) d_Mo_run_159 (by decide) (fun c159 => ?_) (fun c159 => ?_)
                    · have hmf : m < fuel := by have : m ≠ fuel := fun z => c159 (by rw [z]); omega
                      obtain ⟨f, rfl⟩ : ∃ r, f = r + 1 := ⟨f - 1, by omega⟩
                      first | refine x_aload_n d_Mo_run_170 rfl rfl ?_ | refine x_aloadN_n d_Mo_run_170 rfl rfl ?_ | refine x_aloadE_n d_Mo_run_170 rfl rfl ?_ | refine x_aloadO_n d_Mo_run_170 rfl rfl ?_
                      refine x_iload d_Mo_run_171 rfl ?_
                      refine x_callV1 d_Mo_run_173 k_Mo_unfold l_Mo_212 v_Mo_unfold rfl s_Mo_unfold (by first | exact hM.1 | exact hM.s rfl | assumption) RoomE.m (Nat.le_of_ble_eq_true rfl) (hUn τ y a f0 hrow hI hy200 hn hu _ (fun τ1 f1 g2 g3 g4 g5 => ?_))
                      have hM := hM.fr f1
                      first | refine x_aload_n d_Mo_run_176 rfl rfl ?_ | refine x_aloadN_n d_Mo_run_176 rfl rfl ?_ | refine x_aloadE_n d_Mo_run_176 rfl rfl ?_ | refine x_aloadO_n d_Mo_run_176 rfl rfl ?_
                      refine x_dup d_Mo_run_177 rfl ?_
                      refine x_getI d_Mo_run_178 f_Mo_142 rfl (by first | exact hM.1 | exact hM.s rfl | assumption) ?_
                      refine x_iconst (v := 1) d_Mo_run_181 (by decide) ?_
                      rw [g2 44 (by decide), h44]
                      refine x_iadd d_Mo_run_182 ?_
                      rw [show nI m + 1 = nI (m + 1) from nI_1 m]
                      refine x_putI d_Mo_run_183 (w_Mo_m_142 _) rfl (by first | rfl | decide) (by first | rfl | decide) (by first | exact hM.1 | exact hM.s rfl | assumption) ?_
                      first
                      | (refine x_goto (tgt := 77) d_Mo_run_186 (by decide) ?_
                         exact Wq.fg (l77e _ _ (f0.w (by simp)) (by rw [eR]; exact hrow.w (by decide)) (by rw [eR]; exact hyl) (by rw [eR, wI_s]) (by rw [eR]; show (0 : Int32) ≤ 2; decide) (by rw [eR, wI_j (by decide)]; exact h44) (by rw [eR]; exact fun z => absurd (show (2 : Int32) = 0 from z) (by decide))) lsub_rf)
                      | (refine x_goto (tgt := 77) d_Mo_run_186 (by decide) ?_
                         exact Wq.fg (ih f (by omega) (m + 1) (ul y a) _ (some (.int (nI a))) (by omega) ((f0.tr ⟨f1, fun j h1 _ _ => g2 j h1⟩).w (by simp)) (g3.w (by decide)) g4 g5 (by rw [wI_j (by decide), g2 43 (by decide)]; exact h43) wI_s (by rw [← hg, gR4 hy200 hn hu hmf])) lsub_rf)
                    · have emf : m = fuel := nI_inj c159 (by omega) (by omega)
                      have eR : R = (2, m, y) := by
                        rw [← hg, gR2 hy200 hn hu (by omega)]
                      first | refine x_aload_n d_Mo_run_162 rfl rfl ?_ | refine x_aloadN_n d_Mo_run_162 rfl rfl ?_ | refine x_aloadE_n d_Mo_run_162 rfl rfl ?_ | refine x_aloadO_n d_Mo_run_162 rfl rfl ?_
                      refine x_iconst (v := 2) d_Mo_run_163 (by decide) ?_
                      refine x_putI d_Mo_run_164 (w_Mo_m_110 _) rfl (by first | rfl | decide) (by first | rfl | decide) (by first | exact hM.1 | exact hM.s rfl | assumption) ?_
                      refine x_goto (tgt := 186) d_Mo_run_167 (by decide) ?_
                      first
                      | (refine x_goto (tgt := 77) d_Mo_run_186 (by decide) ?_
                         exact Wq.fg (l77e _ _ (f0.w (by simp)) (by rw [eR]; exact hrow.w (by decide)) (by rw [eR]; exact hyl) (by rw [eR, wI_s]) (by rw [eR]; show (0 : Int32) ≤ 2; decide) (by rw [eR, wI_j (by decide)]; exact h44) (by rw [eR]; exact fun z => absurd (show (2 : Int32) = 0 from z) (by decide))) lsub_rf)
                      | (refine x_goto (tgt := 77) d_Mo_run_186 (by decide) ?_
                         exact Wq.fg (ih f (by omega) (m + 1) (ul y a) _ (some (.int (nI a))) (by omega) ((f0.tr ⟨f1, fun j h1 _ _ => g2 j h1⟩).w (by simp)) (g3.w (by decide)) g4 g5 (by rw [wI_j (by decide), g2 43 (by decide)]; exact h43) wI_s (by rw [← hg, gR4 hy200 hn hu hmf])) lsub_rf)
                  · exact absurd c143 (nI_nm1 (by omega))
              · exact absurd c125 (nI_nm1 (by omega))
            · exact absurd (show nI y.length ≤ nI 200 from nI_le (by omega) (by omega)) c111
          · exact absurd (show nI y.length ≤ nI 200 from nI_le (by omega) (by omega)) c91
      · have eR : R = (3, m, y) := by
          rw [← hg, gR3 (by omega)]
        first | refine x_aload_n d_Mo_run_84 rfl rfl ?_ | refine x_aloadN_n d_Mo_run_84 rfl rfl ?_ | refine x_aloadE_n d_Mo_run_84 rfl rfl ?_ | refine x_aloadO_n d_Mo_run_84 rfl rfl ?_
        refine x_getI d_Mo_run_85 f_Mo_157 rfl (by first | exact hM.1 | exact hM.s rfl | assumption) ?_
        refine x_sipush (v := 200) d_Mo_run_88 (by decide) ?_
        rw [hrow.1]
        refine x_icmp_le (tgt := 98) d_Mo_run_91 (by decide) (fun c91 => ?_) (fun c91 => ?_)
        · exact absurd ((nI_leI (by omega) (by decide)).mp (show nI y.length ≤ nI 200 from c91)) (by omega)
        · refine x_iconst (v := -1) d_Mo_run_94 (by decide) ?_
          refine x_goto (tgt := 102) d_Mo_run_95 (by decide) ?_
          refine x_istore d_Mo_run_102 rfl ?_
          first | refine x_aload_n d_Mo_run_104 rfl rfl ?_ | refine x_aloadN_n d_Mo_run_104 rfl rfl ?_ | refine x_aloadE_n d_Mo_run_104 rfl rfl ?_ | refine x_aloadO_n d_Mo_run_104 rfl rfl ?_
          refine x_getI d_Mo_run_105 f_Mo_157 rfl (by first | exact hM.1 | exact hM.s rfl | assumption) ?_
          refine x_sipush (v := 200) d_Mo_run_108 (by decide) ?_
          rw [hrow.1]
          refine x_icmp_le (tgt := 122) d_Mo_run_111 (by decide) (fun c111 => ?_) (fun c111 => ?_)
          · exact absurd ((nI_leI (by omega) (by decide)).mp (show nI y.length ≤ nI 200 from c111)) (by omega)
          · first | refine x_aload_n d_Mo_run_114 rfl rfl ?_ | refine x_aloadN_n d_Mo_run_114 rfl rfl ?_ | refine x_aloadE_n d_Mo_run_114 rfl rfl ?_ | refine x_aloadO_n d_Mo_run_114 rfl rfl ?_
            refine x_iconst (v := 3) d_Mo_run_115 (by decide) ?_
            refine x_putI d_Mo_run_116 (w_Mo_m_110 _) rfl (by first | rfl | decide) (by first | rfl | decide) (by first | exact hM.1 | exact hM.s rfl | assumption) ?_
            refine x_goto (tgt := 186) d_Mo_run_119 (by decide) ?_
            refine x_goto (tgt := 77) d_Mo_run_186 (by decide) ?_
            exact Wq.fg (l77e _ _ (f0.w (by simp)) (by rw [eR]; exact hrow.w (by decide)) (by rw [eR]; exact hyl) (by rw [eR, wI_s]) (by rw [eR]; show (0 : Int32) ≤ 3; decide) (by rw [eR, wI_j (by decide)]; exact h44) (by rw [eR]; exact fun z => absurd (show (3 : Int32) = 0 from z) (by decide))) lsub_rf
  have hM := hM.fr f1.1
  first | refine x_aload_n d_Mo_run_67 rfl rfl ?_ | refine x_aloadN_n d_Mo_run_67 rfl rfl ?_ | refine x_aloadE_n d_Mo_run_67 rfl rfl ?_ | refine x_aloadO_n d_Mo_run_67 rfl rfl ?_
  refine x_iconst (v := 0) d_Mo_run_68 (by decide) ?_
  refine x_putI d_Mo_run_69 (w_Mo_m_142 _) rfl (by first | rfl | decide) (by first | rfl | decide) (by first | exact hM.1 | exact hM.s rfl | assumption) ?_
  first | refine x_aload_n d_Mo_run_72 rfl rfl ?_ | refine x_aloadN_n d_Mo_run_72 rfl rfl ?_ | refine x_aloadE_n d_Mo_run_72 rfl rfl ?_ | refine x_aloadO_n d_Mo_run_72 rfl rfl ?_
  refine x_iconst (v := -1) d_Mo_run_73 (by decide) ?_
  refine x_putI d_Mo_run_74 (w_Mo_m_110 _) rfl (by first | rfl | decide) (by first | rfl | decide) (by first | exact hM.1 | exact hM.s rfl | assumption) ?_
  exact Wq.fg (l77 fuel fuel (by omega) 0 y0 _ o4 (by omega) ((f1.w (by simp)).w (by simp)) ((hr0.w (by decide)).w (by decide)) hI0 hl0 wI_s (by rw [wI_j (by decide), wI_s, nI_0]) hg0) lsub_rf
