/-! SuperDriverModel: differ -/
theorem rep_pf {q : Int32 → Nat} {zs : List Int32} {f e : Nat} (hf : full q 1 zs = true) (hn : ∀ s ∈ zs, s ≠ -1) (hfl : f < zs.length) (hel : e < zs.length) : rep zs f (f + tk q 1 (zs.drop f)) e = (decide (tk q 1 (zs.drop e) = tk q 1 (zs.drop f)) && decide (∀ k, k < tk q 1 (zs.drop f) → zs.getD (e + k) (-1) = zs.getD (f + k) (-1))) := by
  unfold rep
  rw [Nat.add_sub_cancel_left, ← Bool.decide_and]
  refine decide_eq_decide.mpr ⟨fun h => ⟨?_, fun k hk => (h k hk).symm⟩, fun h k hk => (h.2 k hk).symm⟩
  have hle := tk_le (zs.drop f) 1 (p := q)
  rw [List.length_drop] at hle
  have hin : ∀ k, k < tk q 1 (zs.drop f) → e + k < zs.length := fun k hk => by
    by_cases z : e + k < zs.length
    · exact z
    · have := h k hk
      rw [getD_ge (zs := zs) (k := e + k) (by omega)] at this
      exact absurd this (hn _ (getD_mem (by omega)))
  have hpre : (zs.drop e).take (tk q 1 (zs.drop f)) = (zs.drop f).take (tk q 1 (zs.drop f)) := by
    apply List.ext_getElem?
    intro k
    by_cases hk : k < tk q 1 (zs.drop f)
    · rw [List.getElem?_take_of_lt hk, List.getElem?_take_of_lt hk, List.getElem?_drop, List.getElem?_drop]
      have h1 := h k hk
      have h2 := hin k hk
      rw [List.getD_eq_getElem?_getD, List.getD_eq_getElem?_getD, List.getElem?_eq_getElem (show f + k < zs.length by omega), List.getElem?_eq_getElem h2] at h1
      rw [List.getElem?_eq_getElem (show f + k < zs.length by omega), List.getElem?_eq_getElem h2]
      exact congrArg some h1.symm
    · rw [List.getElem?_eq_none (by rw [List.length_take]; omega), List.getElem?_eq_none (by rw [List.length_take]; omega)]
  have hs := full_seg hf hfl
  rw [← hpre] at hs
  have := tk_app (l2 := (zs.drop e).drop (tk q 1 (zs.drop f))) hs
  rw [List.take_append_drop, List.length_take, List.length_drop] at this
  rw [this]
  have : ∀ k, k < tk q 1 (zs.drop f) → k < zs.length - e := fun k hk => by have := hin k hk; omega
  by_cases z : tk q 1 (zs.drop f) = 0
  · omega
  · have := this (tk q 1 (zs.drop f) - 1) (by omega)
    omega
/-- what is common so far, in the arrays -/
def GI (τ : Mem) (a b V0 : Nat) (zu zl : List Int32) (up : Bool) (S : GS) (T : TS) : Prop :=
  τ.1 391 40 = nI (gC S) ∧ τ.1 391 38 = nI (gL S).length ∧ (∀ k, k < gC S → (up = true → τ.1 423 k = nI (40 * a + gU S k)) ∧ τ.1 424 k = nI (40 * b + gD S k)) ∧ τ.1 391 14 = nI (V0 + gC S) ∧ τ.1 391 12 = bI (tG T) ∧ tG T = decide (100 < V0 + gC S) ∧ (tG T = false → tV T = V0 + gC S ∧ (0 < gC S → gF S = nI V0) ∧ seg τ 422 0 (gL S)) ∧ ∀ k, k < gC S → (up = true → gU S k < zu.length) ∧ gD S k < zl.length
def dfS (P : Int32 → Int32) (zu zl : List Int32) (i j : Nat) (S : GS) (T : TS) : GS × TS := match met S zu zl i (behind P zu i) j (behind P zl j) (gC S) 0 with
  | some k => (gAdd S (gF S + nI k), T)
  | none => (gAdd (gN1 S (tNew T).2 i j) (tNew T).2, (tNew T).1)
theorem met_c {S : GS} {zu zl : List Int32} {i ue j le f k : Nat} : met S zu zl i ue j le (f + 1) k = if mt1 S zu zl i ue j le k = true then some k else met S zu zl i ue j le f (k + 1) := rfl
set_option maxRecDepth 10000 in
set_option maxHeartbeats 1000000 in
theorem c_Mo_differ {G : Ctx} {d : Nat} {Γ : List Sh} {σ : Mem} {Q : Option Value → List Sh → Mem → Prop} {pt : Nat → Int32} {a b i j V0 : Nat} {zu zl : List Int32} {S : GS} {T : TS} (hM : MoS Γ σ) (hP : PB (sgP pt)) (hT : twT σ (nP (sgP pt)) a b zu zl) (hG : GI σ a b V0 zu zl true S T) (hi : i < zu.length) (hj : j < zl.length) (hc : gC S ≤ i) (hll : (gL S).length ≤ i) (hV : V0 ≤ 100) (hQ : ∀ τ, FrI [391, 422, 423, 424] σ τ → (∀ j, j ≠ 12 → j ≠ 14 → j ≠ 38 → j ≠ 40 → τ.1 391 j = σ.1 391 j) → GI τ a b V0 zu zl true (dfS (sgP pt) zu zl i j S T).1 (dfS (sgP pt) zu zl i j S T).2 → Q none Γ τ) : Ct G M_Mo_differ (d + 3) 0 0 [rf G 391, .int (nI V0), .int (nI (40 * a + i)), .int (nI (40 * b + j))] Γ σ Q := by
  obtain ⟨t1, t2, ⟨t3, t3b⟩, t4, t5, t6, t7, t8, t9⟩ := id hT
  obtain ⟨h1, h2, h3, h4, h5, h6, h7, h8⟩ := id hG
  have hnu1 : ∀ s ∈ zu, s ≠ -1 := fun s hs => by obtain ⟨k, e, ok, _⟩ := t8 s hs; rw [e]; exact nI_nm1 (by have := ok.le; omega)
  have hnl1 : ∀ s ∈ zl, s ≠ -1 := fun s hs => by obtain ⟨k, e, ok, _⟩ := t9 s hs; rw [e]; exact nI_nm1 (by have := ok.le; omega)
  have hbu : behind (sgP pt) zu i = i + tk (nP (sgP pt)) 1 (zu.drop i) := behind_tk hP (by omega) i
  have hbl : behind (sgP pt) zl j = j + tk (nP (sgP pt)) 1 (zl.drop j) := behind_tk hP (by omega) j
  obtain ⟨m1, hm1⟩ := full_sfx t6 hi
  obtain ⟨m2, hm2⟩ := full_sfx t7 hj
  have hlu := tk_le (zu.drop i) 1 (p := nP (sgP pt))
  have hlw := tk_le (zl.drop j) 1 (p := nP (sgP pt))
  rw [List.length_drop] at hlu hlw
  generalize hnu : tk (nP (sgP pt)) 1 (zu.drop i) = nu at *
  generalize hnl : tk (nP (sgP pt)) 1 (zl.drop j) = nl at *
  generalize hRR : met S zu zl i (behind (sgP pt) zu i) j (behind (sgP pt) zl j) (gC S) 0 = R
  have j174 : ∀ (kn : Int32) (x7 x8 : Option Value), (kn = -1 ∧ R = none ∨ ∃ r, kn = nI r ∧ R = some r) → Wq G M_Mo_differ (Em G (d + 3) 0 0 Q) 0 0 174 [some (rf G 391), some (.int (nI V0)), some (.int (nI (40 * a + i))), some (.int (nI (40 * b + j))), some (.int (nI nu)), some (.int (nI nl)), some (.int kn), x7, x8] [] [] Γ σ := by
    intro kn x7 x8 hx
    rcases hx with hx | hx
    · obtain ⟨rfl, hRn⟩ := hx
      refine x_iload d_Mo_differ_174 rfl ?_
      refine x_if_ge (tgt := 221) d_Mo_differ_176 (by decide) (fun c176 => ?_) (fun c176 => ?_)
      · exact absurd c176 (by decide)
      · first | refine x_aload_n d_Mo_differ_179 rfl rfl ?_ | refine x_aloadN_n d_Mo_differ_179 rfl rfl ?_ | refine x_aloadE_n d_Mo_differ_179 rfl rfl ?_ | refine x_aloadO_n d_Mo_differ_179 rfl rfl ?_
        refine x_getI d_Mo_differ_180 f_Mo_216 rfl (by first | exact hM.1 | exact hM.s rfl | assumption) ?_
        rw [h1]
        refine x_istore d_Mo_differ_183 rfl ?_
        first | refine x_aload_n d_Mo_differ_185 rfl rfl ?_ | refine x_aloadN_n d_Mo_differ_185 rfl rfl ?_ | refine x_aloadE_n d_Mo_differ_185 rfl rfl ?_ | refine x_aloadO_n d_Mo_differ_185 rfl rfl ?_
        refine x_getR d_Mo_differ_186 f_Mo_104 rfl (by first | exact hM.1 | exact hM.s rfl | assumption) (hM.r rfl) ?_
        first | refine x_aload_n d_Mo_differ_189 rfl rfl ?_ | refine x_aloadN_n d_Mo_differ_189 rfl rfl ?_ | refine x_aloadE_n d_Mo_differ_189 rfl rfl ?_ | refine x_aloadO_n d_Mo_differ_189 rfl rfl ?_
        refine x_getI d_Mo_differ_190 f_Mo_216 rfl (by first | exact hM.1 | exact hM.s rfl | assumption) ?_
        rw [h1]
        refine x_iload_n d_Mo_differ_193 rfl rfl ?_
        refine x_iast d_Mo_differ_194 (by first | exact hM.1 | exact hM.s rfl | assumption) (vp_in_nI (show gC S < 40 by omega) (by decide)) ?_
        rw [nI_clamp (by omega)]
        first | refine x_aload_n d_Mo_differ_195 rfl rfl ?_ | refine x_aloadN_n d_Mo_differ_195 rfl rfl ?_ | refine x_aloadE_n d_Mo_differ_195 rfl rfl ?_ | refine x_aloadO_n d_Mo_differ_195 rfl rfl ?_
        refine x_getR d_Mo_differ_196 f_Mo_107 rfl (by first | exact hM.1 | exact hM.s rfl | assumption) (hM.r rfl) ?_
        first | refine x_aload_n d_Mo_differ_199 rfl rfl ?_ | refine x_aloadN_n d_Mo_differ_199 rfl rfl ?_ | refine x_aloadE_n d_Mo_differ_199 rfl rfl ?_ | refine x_aloadO_n d_Mo_differ_199 rfl rfl ?_
        refine x_getI d_Mo_differ_200 f_Mo_216 rfl (by first | exact hM.1 | exact hM.s rfl | assumption) ?_
        rw [wI_o (by decide), h1]
        refine x_iload_n d_Mo_differ_203 rfl rfl ?_
        refine x_iast d_Mo_differ_204 (by first | exact hM.1 | exact hM.s rfl | assumption) (vp_in_nI (show gC S < 40 by omega) (by decide)) ?_
        rw [nI_clamp (by omega)]
        first | refine x_aload_n d_Mo_differ_205 rfl rfl ?_ | refine x_aloadN_n d_Mo_differ_205 rfl rfl ?_ | refine x_aloadE_n d_Mo_differ_205 rfl rfl ?_ | refine x_aloadO_n d_Mo_differ_205 rfl rfl ?_
        refine x_dup d_Mo_differ_206 rfl ?_
        refine x_getI d_Mo_differ_207 f_Mo_216 rfl (by first | exact hM.1 | exact hM.s rfl | assumption) ?_
        rw [wI_o (by decide), wI_o (by decide), h1]
        refine x_iconst (v := 1) d_Mo_differ_210 (by decide) ?_
        refine x_iadd d_Mo_differ_211 ?_
        rw [nI_1]
        refine x_putI d_Mo_differ_212 (w_Mo_m_216 _) rfl (by first | rfl | decide) (by first | rfl | decide) (by first | exact hM.1 | exact hM.s rfl | assumption) ?_
        first | refine x_aload_n d_Mo_differ_215 rfl rfl ?_ | refine x_aloadN_n d_Mo_differ_215 rfl rfl ?_ | refine x_aloadE_n d_Mo_differ_215 rfl rfl ?_ | refine x_aloadO_n d_Mo_differ_215 rfl rfl ?_
        refine x_iconst (v := 1) d_Mo_differ_216 (by decide) ?_
        refine x_callV1 d_Mo_differ_217 k_Mo_renew l_Mo_209 v_Mo_renew rfl s_Mo_renew (by first | exact hM.1 | exact hM.s rfl | assumption) RoomE.m (Nat.le_of_ble_eq_true rfl) (c_Mo_renew (n := 1) (v := V0 + gC S) (g := tG T) (((hM.w (a := 423) (j := gC S) (v := nI (40 * a + i))).w (a := 424) (j := gC S) (v := nI (40 * b + j))).w (a := 391) (j := 40) (v := nI (gC S + 1))) (by rw [wI_j (by decide), wI_o (by decide), wI_o (by decide)]; exact h4) (by rw [wI_j (by decide), wI_o (by decide), wI_o (by decide)]; exact h5) (by omega) (by omega) ?_)
        refine x_pop d_Mo_differ_220 rfl ?_
        first | refine x_aload_n d_Mo_differ_221 rfl rfl ?_ | refine x_aloadN_n d_Mo_differ_221 rfl rfl ?_ | refine x_aloadE_n d_Mo_differ_221 rfl rfl ?_ | refine x_aloadO_n d_Mo_differ_221 rfl rfl ?_
        refine x_getR d_Mo_differ_222 f_Mo_101 rfl (by first | exact hM.1 | exact hM.s rfl | assumption) (hM.r rfl) ?_
        first | refine x_aload_n d_Mo_differ_225 rfl rfl ?_ | refine x_aloadN_n d_Mo_differ_225 rfl rfl ?_ | refine x_aloadE_n d_Mo_differ_225 rfl rfl ?_ | refine x_aloadO_n d_Mo_differ_225 rfl rfl ?_
        refine x_getI d_Mo_differ_226 f_Mo_223 rfl (by first | exact hM.1 | exact hM.s rfl | assumption) ?_
        rw [wI_j (by decide), wI_j (by decide), wI_j (by decide), wI_o (by decide), wI_o (by decide), h2]
        refine x_iload_n d_Mo_differ_229 rfl rfl ?_
        refine x_iload d_Mo_differ_230 rfl ?_
        refine x_iadd d_Mo_differ_232 ?_
        rw [nI_add]
        refine x_iast d_Mo_differ_233 (by first | exact hM.1 | exact hM.s rfl | assumption) (vp_in_nI (show (gL S).length < 40 by omega) (by decide)) ?_
        rw [nI_clamp (by omega)]
        first | refine x_aload_n d_Mo_differ_234 rfl rfl ?_ | refine x_aloadN_n d_Mo_differ_234 rfl rfl ?_ | refine x_aloadE_n d_Mo_differ_234 rfl rfl ?_ | refine x_aloadO_n d_Mo_differ_234 rfl rfl ?_
        refine x_dup d_Mo_differ_235 rfl ?_
        refine x_getI d_Mo_differ_236 f_Mo_223 rfl (by first | exact hM.1 | exact hM.s rfl | assumption) ?_
        rw [wI_o (by decide), wI_j (by decide), wI_j (by decide), wI_j (by decide), wI_o (by decide), wI_o (by decide), h2]
        refine x_iconst (v := 1) d_Mo_differ_239 (by decide) ?_
        refine x_iadd d_Mo_differ_240 ?_
        rw [nI_1]
        refine x_putI d_Mo_differ_241 (w_Mo_m_223 _) rfl (by first | rfl | decide) (by first | rfl | decide) (by first | exact hM.1 | exact hM.s rfl | assumption) ?_
        exact x_return d_Mo_differ_244 rfl (hQ _ (((((((FrI.rf.put (by simp)).put (by simp)).put (by simp)).put (by simp)).put (by simp)).put (by simp)).put (by simp)) (fun j k1 k2 k3 k4 => by rw [wI_j k3, wI_o (by decide), wI_j k1, wI_j k2, wI_j k4, wI_o (by decide), wI_o (by decide)]) (by
          rw [dfS, hRR, hRn]
          obtain ⟨n1, n2, n3, n4, n5⟩ := gN1_spec (S := S) (v := (tNew T).2) (u := i) (l := j) (by omega)
          have hgT : tG (tNew T).1 = (tG T || decide (100 < V0 + gC S + 1)) := by
            cases hg : tG T with
            | true => rw [tNew_G hg]; rfl
            | false =>
              have hv := (h7 hg).1
              rw [Bool.false_or]
              unfold tNew
              by_cases z : tV T < 100
              · rw [if_pos z, decide_eq_false (by omega)]; exact hg
              · rw [if_neg z, decide_eq_true (by omega)]; rfl
          refine ⟨?_, ?_, fun k hk => ?_, ?_, ?_, ?_, fun hg => ?_, fun k hk => ?_⟩
          · show _ = nI (gC (gN1 S _ i j))
            rw [n2, wI_j (by decide), wI_o (by decide), wI_j (by decide), wI_j (by decide), wI_s]
          · show _ = nI (gL (gN1 S _ i j) ++ [_]).length
            rw [n1, wI_s, List.length_append]; rfl
          · have hk' : k < gC (gN1 S (tNew T).2 i j) := hk
            rw [n2] at hk'
            show (_ → _ = nI (40 * a + gU (gN1 S _ i j) k)) ∧ _ = nI (40 * b + gD (gN1 S _ i j) k)
            rw [n4, n5]
            by_cases e : k = gC S
            · rw [if_pos e, if_pos e, e]
              exact ⟨fun _ => by rw [wI_o (by decide), wI_o (by decide), wI_o (by decide), wI_o (by decide), wI_o (by decide), wI_o (by decide), wI_s], by rw [wI_o (by decide), wI_o (by decide), wI_o (by decide), wI_o (by decide), wI_o (by decide), wI_s]⟩
            · rw [if_neg e, if_neg e]
              exact ⟨fun z => by rw [wI_o (by decide), wI_o (by decide), wI_o (by decide), wI_o (by decide), wI_o (by decide), wI_o (by decide), wI_j e]; exact (h3 k (by omega)).1 z, by rw [wI_o (by decide), wI_o (by decide), wI_o (by decide), wI_o (by decide), wI_o (by decide), wI_j e, wI_o (by decide)]; exact (h3 k (by omega)).2⟩
          · show _ = nI (V0 + gC (gN1 S _ i j))
            rw [n2, wI_j (by decide), wI_o (by decide), wI_j (by decide), wI_s, Nat.add_assoc]
          · rw [wI_j (by decide), wI_o (by decide), wI_s, hgT]
          · show tG (tNew T).1 = decide (100 < V0 + gC (gN1 S _ i j))
            rw [n2, hgT, h6, ← Bool.decide_or]
            exact decide_eq_decide.mpr (by omega)
          · rw [hgT] at hg
            obtain ⟨z1, z2⟩ := Bool.or_eq_false_iff.mp hg
            obtain ⟨g1, g2, g3⟩ := h7 z1
            have hlt : tV T < 100 := by have := of_decide_eq_false z2; omega
            have hv2 : (tNew T).2 = nI (V0 + gC S) := by unfold tNew; rw [if_pos hlt, g1]
            have hvV : tV (tNew T).1 = V0 + gC S + 1 := by unfold tNew; rw [if_pos hlt]; show tV T + 1 = _; omega
            refine ⟨?_, fun _ => ?_, ?_⟩
            · show _ = V0 + gC (gN1 S _ i j)
              rw [n2, hvV]; omega
            · show gF (gN1 S _ i j) = _
              rw [n3, hv2]
              by_cases y : gC S = 0
              · rw [if_pos y, y]; rfl
              · rw [if_neg y]; exact g2 (by omega)
            · show seg _ 422 0 (gL (gN1 S _ i j) ++ [(tNew T).2])
              rw [n1, hv2]
              intro q hq
              rw [wI_o (by decide)]
              refine seg_app (fun q hq => ?_) (by omega) q hq
              rw [wI_o (by decide), wI_o (by decide), wI_o (by decide), wI_o (by decide), wI_o (by decide)]
              exact g3 q hq
          · have hk' : k < gC (gN1 S (tNew T).2 i j) := hk
            rw [n2] at hk'
            show (_ → gU (gN1 S _ i j) k < _) ∧ gD (gN1 S _ i j) k < _
            rw [n4, n5]
            by_cases e : k = gC S
            · rw [if_pos e, if_pos e]; exact ⟨fun _ => hi, hj⟩
            · rw [if_neg e, if_neg e]; exact h8 k (by omega)))
    · obtain ⟨r, rfl, hRr⟩ := hx
      have hrC : r < gC S := by have := met_lt (hRR.trans hRr); omega
      refine x_iload d_Mo_differ_174 rfl ?_
      refine x_if_ge (tgt := 221) d_Mo_differ_176 (by decide) (fun c176 => ?_) (fun c176 => ?_)
      · first | refine x_aload_n d_Mo_differ_221 rfl rfl ?_ | refine x_aloadN_n d_Mo_differ_221 rfl rfl ?_ | refine x_aloadE_n d_Mo_differ_221 rfl rfl ?_ | refine x_aloadO_n d_Mo_differ_221 rfl rfl ?_
        refine x_getR d_Mo_differ_222 f_Mo_101 rfl (by first | exact hM.1 | exact hM.s rfl | assumption) (hM.r rfl) ?_
        first | refine x_aload_n d_Mo_differ_225 rfl rfl ?_ | refine x_aloadN_n d_Mo_differ_225 rfl rfl ?_ | refine x_aloadE_n d_Mo_differ_225 rfl rfl ?_ | refine x_aloadO_n d_Mo_differ_225 rfl rfl ?_
        refine x_getI d_Mo_differ_226 f_Mo_223 rfl (by first | exact hM.1 | exact hM.s rfl | assumption) ?_
        rw [h2]
        refine x_iload_n d_Mo_differ_229 rfl rfl ?_
        refine x_iload d_Mo_differ_230 rfl ?_
        refine x_iadd d_Mo_differ_232 ?_
        rw [nI_add]
        refine x_iast d_Mo_differ_233 (by first | exact hM.1 | exact hM.s rfl | assumption) (vp_in_nI (show (gL S).length < 40 by omega) (by decide)) ?_
        rw [nI_clamp (by omega)]
        first | refine x_aload_n d_Mo_differ_234 rfl rfl ?_ | refine x_aloadN_n d_Mo_differ_234 rfl rfl ?_ | refine x_aloadE_n d_Mo_differ_234 rfl rfl ?_ | refine x_aloadO_n d_Mo_differ_234 rfl rfl ?_
        refine x_dup d_Mo_differ_235 rfl ?_
        refine x_getI d_Mo_differ_236 f_Mo_223 rfl (by first | exact hM.1 | exact hM.s rfl | assumption) ?_
        rw [wI_o (by decide), h2]
        refine x_iconst (v := 1) d_Mo_differ_239 (by decide) ?_
        refine x_iadd d_Mo_differ_240 ?_
        rw [nI_1]
        refine x_putI d_Mo_differ_241 (w_Mo_m_223 _) rfl (by first | rfl | decide) (by first | rfl | decide) (by first | exact hM.1 | exact hM.s rfl | assumption) ?_
        exact x_return d_Mo_differ_244 rfl (hQ _ ((FrI.rf.put (by simp)).put (by simp)) (fun j h1 h2 h3 h4 => by rw [wI_j h3, wI_o (by decide)]) (by
          rw [dfS, hRR, hRr]
          refine ⟨by rw [wI_j (by decide), wI_o (by decide)]; exact h1, ?_, fun k hk => ?_, by rw [wI_j (by decide), wI_o (by decide)]; exact h4, by rw [wI_j (by decide), wI_o (by decide)]; exact h5, h6, fun hg => ?_, h8⟩
          · rw [wI_s]
            show _ = nI (gL S ++ [gF S + nI r]).length
            rw [List.length_append]; rfl
          · rw [wI_o (by decide), wI_o (by decide), wI_o (by decide), wI_o (by decide)]; exact h3 k hk
          · obtain ⟨g1, g2, g3⟩ := h7 hg
            have hgF := g2 (by omega)
            refine ⟨g1, g2, ?_⟩
            show seg _ 422 0 (gL S ++ [gF S + nI r])
            rw [hgF, nI_add]
            intro q hq
            rw [wI_o (by decide)]
            exact seg_app g3 (by omega) q hq))
      · exact absurd (nI_pos' (by omega)) c176
  have lp : ∀ (f k : Nat) (kn : Int32) (x8 : Option Value), k ≤ gC S → gC S < k + f → (kn = -1 ∧ R = met S zu zl i (behind (sgP pt) zu i) j (behind (sgP pt) zl j) (gC S - k) k ∨ ∃ r, kn = nI r ∧ R = some r) → Wq G M_Mo_differ (Em G (d + 3) 0 0 Q) 0 0 32 [some (rf G 391), some (.int (nI V0)), some (.int (nI (40 * a + i))), some (.int (nI (40 * b + j))), some (.int (nI nu)), some (.int (nI nl)), some (.int kn), some (.int (nI k)), x8] [] [] Γ σ := by
    intro f
    induction f with
    | zero => intro k kn x8 z1 z2; omega
    | succ f ih =>
    intro k kn x8 hkle hkf hx
    refine x_iload d_Mo_differ_32 rfl ?_
    first | refine x_aload_n d_Mo_differ_34 rfl rfl ?_ | refine x_aloadN_n d_Mo_differ_34 rfl rfl ?_ | refine x_aloadE_n d_Mo_differ_34 rfl rfl ?_ | refine x_aloadO_n d_Mo_differ_34 rfl rfl ?_
    refine x_getI d_Mo_differ_35 f_Mo_216 rfl (by first | exact hM.1 | exact hM.s rfl | assumption) ?_
    rw [h1]
    refine x_icmp_ge (tgt := 174) d_Mo_differ_38 (by decide) (fun c38 => ?_) (fun c38 => ?_)
    · have e : k = gC S := by have := (nI_leI (by omega) (by omega)).mp c38; omega
      refine j174 kn _ _ ?_
      rcases hx with ⟨z1, z2⟩ | z
      · refine Or.inl ⟨z1, ?_⟩
        rw [z2, e, Nat.sub_self]; rfl
      · exact Or.inr z
    · refine x_iload d_Mo_differ_41 rfl ?_
      refine x_if_ge (tgt := 174) d_Mo_differ_43 (by decide) (fun c43 => ?_) (fun c43 => ?_)
      · refine j174 kn _ _ ?_
        rcases hx with ⟨z1, z2⟩ | z
        · rw [z1] at c43
          exact absurd c43 (by decide)
        · exact Or.inr z
      · have hkC : k < gC S := Nat.not_le.mp fun z => c38 (nI_le z (by omega))
        have hxm : kn = -1 ∧ R = met S zu zl i (behind (sgP pt) zu i) j (behind (sgP pt) zl j) (gC S - k) k := by
          rcases hx with z | ⟨r, rfl, _⟩
          · exact z
          · exact absurd (nI_pos' (by have := met_lt (hRR.trans ‹_›); omega)) c43
        obtain ⟨rfl, hxm⟩ := hxm
        obtain ⟨su0, sl⟩ := h8 k hkC
        have su := su0 rfl
        obtain ⟨mu, hmu⟩ := full_sfx t6 su
        obtain ⟨ml, hml⟩ := full_sfx t7 sl
        have hrU := rep_pf (q := nP (sgP pt)) (f := i) (e := gU S k) t6 hnu1 hi su
        have hrL := rep_pf (q := nP (sgP pt)) (f := j) (e := gD S k) t7 hnl1 hj sl
        have hmt : mt1 S zu zl i (behind (sgP pt) zu i) j (behind (sgP pt) zl j) k = (rep zu i (behind (sgP pt) zu i) (gU S k) && rep zl j (behind (sgP pt) zl j) (gD S k)) := rfl
        rw [hnu] at hrU
        rw [hnl] at hrL
        rw [hbu, hbl, hrU, hrL] at hmt
        rw [← hbu, ← hbl] at hmt
        have htU := tk_le (zu.drop (gU S k)) 1 (p := nP (sgP pt))
        have htL := tk_le (zl.drop (gD S k)) 1 (p := nP (sgP pt))
        rw [List.length_drop] at htU htL
        have j168 : ∀ (kn : Int32) (x8 : Option Value), (kn = -1 ∧ R = met S zu zl i (behind (sgP pt) zu i) j (behind (sgP pt) zl j) (gC S - (k + 1)) (k + 1) ∨ ∃ r, kn = nI r ∧ R = some r) → Wq G M_Mo_differ (Em G (d + 3) 0 0 Q) 0 0 168 [some (rf G 391), some (.int (nI V0)), some (.int (nI (40 * a + i))), some (.int (nI (40 * b + j))), some (.int (nI nu)), some (.int (nI nl)), some (.int kn), some (.int (nI k)), x8] [] [] Γ σ := by
          intro kn x8 hx
          refine x_iinc (v := nI (k + 1)) d_Mo_differ_168 rfl (nI_1 k) rfl ?_
          refine x_goto (tgt := 32) d_Mo_differ_171 (by decide) ?_
          exact Wq.fg (ih (k + 1) kn x8 (by omega) (by omega) hx) ⟨rfl, rfl, rfl, rfl, rfl, rfl, rfl, rfl, lsub_rf⟩
        first | refine x_aload_n d_Mo_differ_46 rfl rfl ?_ | refine x_aloadN_n d_Mo_differ_46 rfl rfl ?_ | refine x_aloadE_n d_Mo_differ_46 rfl rfl ?_ | refine x_aloadO_n d_Mo_differ_46 rfl rfl ?_
        first | refine x_aload_n d_Mo_differ_47 rfl rfl ?_ | refine x_aloadN_n d_Mo_differ_47 rfl rfl ?_ | refine x_aloadE_n d_Mo_differ_47 rfl rfl ?_ | refine x_aloadO_n d_Mo_differ_47 rfl rfl ?_
        refine x_getR d_Mo_differ_48 f_Mo_41 rfl (by first | exact hM.1 | exact hM.s rfl | assumption) (hM.r rfl) ?_
        first | refine x_aload_n d_Mo_differ_51 rfl rfl ?_ | refine x_aloadN_n d_Mo_differ_51 rfl rfl ?_ | refine x_aloadE_n d_Mo_differ_51 rfl rfl ?_ | refine x_aloadO_n d_Mo_differ_51 rfl rfl ?_
        refine x_getR d_Mo_differ_52 f_Mo_104 rfl (by first | exact hM.1 | exact hM.s rfl | assumption) (hM.r rfl) ?_
        refine x_iload d_Mo_differ_55 rfl ?_
        refine x_iald d_Mo_differ_57 (by first | exact hM.1 | exact hM.s rfl | assumption) (vp_in_nI (show k < 40 by omega) (by decide)) ?_
        rw [nI_clamp (by omega), (h3 k hkC).1 rfl]
        refine x_callV2 d_Mo_differ_58 k_Mo_end l_Mo_164 v_Mo_end rfl s_Mo_end (by first | exact hM.1 | exact hM.s rfl | assumption) RoomE.m (Nat.le_of_ble_eq_true rfl) (c_Mo_end (i := gU S k) (m := mu) hM (hM.s rfl) t4 (by omega) (by decide) t8 hmu ?_)
        first | refine x_aload_n d_Mo_differ_61 rfl rfl ?_ | refine x_aloadN_n d_Mo_differ_61 rfl rfl ?_ | refine x_aloadE_n d_Mo_differ_61 rfl rfl ?_ | refine x_aloadO_n d_Mo_differ_61 rfl rfl ?_
        refine x_getR d_Mo_differ_62 f_Mo_104 rfl (by first | exact hM.1 | exact hM.s rfl | assumption) (hM.r rfl) ?_
        refine x_iload d_Mo_differ_65 rfl ?_
        refine x_iald d_Mo_differ_67 (by first | exact hM.1 | exact hM.s rfl | assumption) (vp_in_nI (show k < 40 by omega) (by decide)) ?_
        rw [nI_clamp (by omega), (h3 k hkC).1 rfl]
        refine x_isub d_Mo_differ_68 ?_
        skip
        refine x_iload d_Mo_differ_69 rfl ?_
        rw [nI_sub (by omega), show 40 * a + gU S k + tk (nP (sgP pt)) 1 (zu.drop (gU S k)) - (40 * a + gU S k) = tk (nP (sgP pt)) 1 (zu.drop (gU S k)) by omega]
        refine x_icmp_ne (tgt := 106) d_Mo_differ_71 (by decide) (fun c71 => ?_) (fun c71 => ?_)
        · refine x_iconst (v := 0) d_Mo_differ_106 (by decide) ?_
          refine x_istore d_Mo_differ_107 rfl ?_
          refine x_iload d_Mo_differ_109 rfl ?_
          refine x_if_eq (tgt := 168) d_Mo_differ_111 (by decide) (fun _ => ?_) (fun c111 => absurd rfl c111)
          exact j168 (-1) _ (Or.inl ⟨rfl, by rw [hxm, show gC S - k = (gC S - (k + 1)) + 1 by omega, met_c, if_neg (by rw [hmt, decide_eq_false (fun z => c71 (by rw [z]))]; simp)]⟩)
        · first | refine x_aload_n d_Mo_differ_74 rfl rfl ?_ | refine x_aloadN_n d_Mo_differ_74 rfl rfl ?_ | refine x_aloadE_n d_Mo_differ_74 rfl rfl ?_ | refine x_aloadO_n d_Mo_differ_74 rfl rfl ?_
          first | refine x_aload_n d_Mo_differ_75 rfl rfl ?_ | refine x_aloadN_n d_Mo_differ_75 rfl rfl ?_ | refine x_aloadE_n d_Mo_differ_75 rfl rfl ?_ | refine x_aloadO_n d_Mo_differ_75 rfl rfl ?_
          refine x_getR d_Mo_differ_76 f_Mo_41 rfl (by first | exact hM.1 | exact hM.s rfl | assumption) (hM.r rfl) ?_
          first | refine x_aload_n d_Mo_differ_79 rfl rfl ?_ | refine x_aloadN_n d_Mo_differ_79 rfl rfl ?_ | refine x_aloadE_n d_Mo_differ_79 rfl rfl ?_ | refine x_aloadO_n d_Mo_differ_79 rfl rfl ?_
          refine x_getR d_Mo_differ_80 f_Mo_107 rfl (by first | exact hM.1 | exact hM.s rfl | assumption) (hM.r rfl) ?_
          refine x_iload d_Mo_differ_83 rfl ?_
          refine x_iald d_Mo_differ_85 (by first | exact hM.1 | exact hM.s rfl | assumption) (vp_in_nI (show k < 40 by omega) (by decide)) ?_
          rw [nI_clamp (by omega), (h3 k hkC).2]
          refine x_callV2 d_Mo_differ_86 k_Mo_end l_Mo_164 v_Mo_end rfl s_Mo_end (by first | exact hM.1 | exact hM.s rfl | assumption) RoomE.m (Nat.le_of_ble_eq_true rfl) (c_Mo_end (i := gD S k) (m := ml) hM (hM.s rfl) t5 (by omega) (by decide) t9 hml ?_)
          first | refine x_aload_n d_Mo_differ_89 rfl rfl ?_ | refine x_aloadN_n d_Mo_differ_89 rfl rfl ?_ | refine x_aloadE_n d_Mo_differ_89 rfl rfl ?_ | refine x_aloadO_n d_Mo_differ_89 rfl rfl ?_
          refine x_getR d_Mo_differ_90 f_Mo_107 rfl (by first | exact hM.1 | exact hM.s rfl | assumption) (hM.r rfl) ?_
          refine x_iload d_Mo_differ_93 rfl ?_
          refine x_iald d_Mo_differ_95 (by first | exact hM.1 | exact hM.s rfl | assumption) (vp_in_nI (show k < 40 by omega) (by decide)) ?_
          rw [nI_clamp (by omega), (h3 k hkC).2]
          refine x_isub d_Mo_differ_96 ?_
          refine x_iload d_Mo_differ_97 rfl ?_
          rw [nI_sub (by omega), show 40 * b + gD S k + tk (nP (sgP pt)) 1 (zl.drop (gD S k)) - (40 * b + gD S k) = tk (nP (sgP pt)) 1 (zl.drop (gD S k)) by omega]
          refine x_icmp_ne (tgt := 106) d_Mo_differ_99 (by decide) (fun c99 => ?_) (fun c99 => ?_)
          · refine x_iconst (v := 0) d_Mo_differ_106 (by decide) ?_
            refine x_istore d_Mo_differ_107 rfl ?_
            refine x_iload d_Mo_differ_109 rfl ?_
            refine x_if_eq (tgt := 168) d_Mo_differ_111 (by decide) (fun _ => ?_) (fun c111 => absurd rfl c111)
            exact j168 (-1) _ (Or.inl ⟨rfl, by rw [hxm, show gC S - k = (gC S - (k + 1)) + 1 by omega, met_c, if_neg (by rw [hmt, decide_eq_false (p := tk (nP (sgP pt)) 1 (zl.drop (gD S k)) = nl) (fun z => c99 (by rw [z]))]; simp)]⟩)
          · refine x_iconst (v := 1) d_Mo_differ_102 (by decide) ?_
            refine x_goto (tgt := 107) d_Mo_differ_103 (by decide) ?_
            refine x_istore d_Mo_differ_107 rfl ?_
            refine x_iload d_Mo_differ_109 rfl ?_
            refine x_if_eq (tgt := 168) d_Mo_differ_111 (by decide) (fun c111 => ?_) (fun c111 => ?_)
            · exact absurd c111 (by decide)
            · have eU : tk (nP (sgP pt)) 1 (zu.drop (gU S k)) = nu := nI_inj c71 (by omega) (by omega)
              have eL : tk (nP (sgP pt)) 1 (zl.drop (gD S k)) = nl := nI_inj c99 (by omega) (by omega)
              have aU : alk σ 402 (40 * a + gU S k) 402 (40 * a + i) nu = decide (∀ q, q < nu → zu.getD (gU S k + q) (-1) = zu.getD (i + q) (-1)) := decide_eq_decide.mpr ⟨fun h q hq => by have := h q hq; rw [Nat.add_assoc, Nat.add_assoc, t4 _ (by omega), t4 _ (by omega)] at this; exact this, fun h q hq => by rw [Nat.add_assoc, Nat.add_assoc, t4 _ (by omega), t4 _ (by omega)]; exact h q hq⟩
              have aL : alk σ 402 (40 * b + gD S k) 402 (40 * b + j) nl = decide (∀ q, q < nl → zl.getD (gD S k + q) (-1) = zl.getD (j + q) (-1)) := decide_eq_decide.mpr ⟨fun h q hq => by have := h q hq; rw [Nat.add_assoc, Nat.add_assoc, t5 _ (by omega), t5 _ (by omega)] at this; exact this, fun h q hq => by rw [Nat.add_assoc, Nat.add_assoc, t5 _ (by omega), t5 _ (by omega)]; exact h q hq⟩
              first | refine x_aload_n d_Mo_differ_114 rfl rfl ?_ | refine x_aloadN_n d_Mo_differ_114 rfl rfl ?_ | refine x_aloadE_n d_Mo_differ_114 rfl rfl ?_ | refine x_aloadO_n d_Mo_differ_114 rfl rfl ?_
              first | refine x_aload_n d_Mo_differ_115 rfl rfl ?_ | refine x_aloadN_n d_Mo_differ_115 rfl rfl ?_ | refine x_aloadE_n d_Mo_differ_115 rfl rfl ?_ | refine x_aloadO_n d_Mo_differ_115 rfl rfl ?_
              refine x_getR d_Mo_differ_116 f_Mo_41 rfl (by first | exact hM.1 | exact hM.s rfl | assumption) (hM.r rfl) ?_
              first | refine x_aload_n d_Mo_differ_119 rfl rfl ?_ | refine x_aloadN_n d_Mo_differ_119 rfl rfl ?_ | refine x_aloadE_n d_Mo_differ_119 rfl rfl ?_ | refine x_aloadO_n d_Mo_differ_119 rfl rfl ?_
              refine x_getR d_Mo_differ_120 f_Mo_104 rfl (by first | exact hM.1 | exact hM.s rfl | assumption) (hM.r rfl) ?_
              refine x_iload d_Mo_differ_123 rfl ?_
              refine x_iald d_Mo_differ_125 (by first | exact hM.1 | exact hM.s rfl | assumption) (vp_in_nI (show k < 40 by omega) (by decide)) ?_
              rw [nI_clamp (by omega), (h3 k hkC).1 rfl]
              first | refine x_aload_n d_Mo_differ_126 rfl rfl ?_ | refine x_aloadN_n d_Mo_differ_126 rfl rfl ?_ | refine x_aloadE_n d_Mo_differ_126 rfl rfl ?_ | refine x_aloadO_n d_Mo_differ_126 rfl rfl ?_
              refine x_getR d_Mo_differ_127 f_Mo_41 rfl (by first | exact hM.1 | exact hM.s rfl | assumption) (hM.r rfl) ?_
              refine x_iload_n d_Mo_differ_130 rfl rfl ?_
              refine x_iload d_Mo_differ_131 rfl ?_
              refine x_callV5 d_Mo_differ_133 k_Mo_alike l_Mo_219 v_Mo_alike rfl s_Mo_alike (by first | exact hM.1 | exact hM.s rfl | assumption) RoomE.m (Nat.le_of_ble_eq_true rfl) (c_Mo_alike (a := 40 * a + gU S k) (b := 40 * a + i) (n := nu) (hM.s rfl) (hM.s rfl) (by omega) (by omega) (by decide) (by decide) ?_)
              refine x_if_eq (tgt := 168) d_Mo_differ_136 (by decide) (fun c136 => ?_) (fun c136 => ?_)
              · exact j168 (-1) _ (Or.inl ⟨rfl, by rw [hxm, show gC S - k = (gC S - (k + 1)) + 1 by omega, met_c, if_neg (by rw [hmt, ← aU, bI_0 c136]; simp)]⟩)
              · first | refine x_aload_n d_Mo_differ_139 rfl rfl ?_ | refine x_aloadN_n d_Mo_differ_139 rfl rfl ?_ | refine x_aloadE_n d_Mo_differ_139 rfl rfl ?_ | refine x_aloadO_n d_Mo_differ_139 rfl rfl ?_
                first | refine x_aload_n d_Mo_differ_140 rfl rfl ?_ | refine x_aloadN_n d_Mo_differ_140 rfl rfl ?_ | refine x_aloadE_n d_Mo_differ_140 rfl rfl ?_ | refine x_aloadO_n d_Mo_differ_140 rfl rfl ?_
                refine x_getR d_Mo_differ_141 f_Mo_41 rfl (by first | exact hM.1 | exact hM.s rfl | assumption) (hM.r rfl) ?_
                first | refine x_aload_n d_Mo_differ_144 rfl rfl ?_ | refine x_aloadN_n d_Mo_differ_144 rfl rfl ?_ | refine x_aloadE_n d_Mo_differ_144 rfl rfl ?_ | refine x_aloadO_n d_Mo_differ_144 rfl rfl ?_
                refine x_getR d_Mo_differ_145 f_Mo_107 rfl (by first | exact hM.1 | exact hM.s rfl | assumption) (hM.r rfl) ?_
                refine x_iload d_Mo_differ_148 rfl ?_
                refine x_iald d_Mo_differ_150 (by first | exact hM.1 | exact hM.s rfl | assumption) (vp_in_nI (show k < 40 by omega) (by decide)) ?_
                rw [nI_clamp (by omega), (h3 k hkC).2]
                first | refine x_aload_n d_Mo_differ_151 rfl rfl ?_ | refine x_aloadN_n d_Mo_differ_151 rfl rfl ?_ | refine x_aloadE_n d_Mo_differ_151 rfl rfl ?_ | refine x_aloadO_n d_Mo_differ_151 rfl rfl ?_
                refine x_getR d_Mo_differ_152 f_Mo_41 rfl (by first | exact hM.1 | exact hM.s rfl | assumption) (hM.r rfl) ?_
                refine x_iload_n d_Mo_differ_155 rfl rfl ?_
                refine x_iload d_Mo_differ_156 rfl ?_
                refine x_callV5 d_Mo_differ_158 k_Mo_alike l_Mo_219 v_Mo_alike rfl s_Mo_alike (by first | exact hM.1 | exact hM.s rfl | assumption) RoomE.m (Nat.le_of_ble_eq_true rfl) (c_Mo_alike (a := 40 * b + gD S k) (b := 40 * b + j) (n := nl) (hM.s rfl) (hM.s rfl) (by omega) (by omega) (by decide) (by decide) ?_)
                refine x_if_eq (tgt := 168) d_Mo_differ_161 (by decide) (fun c161 => ?_) (fun c161 => ?_)
                · exact j168 (-1) _ (Or.inl ⟨rfl, by rw [hxm, show gC S - k = (gC S - (k + 1)) + 1 by omega, met_c, if_neg (by rw [hmt, ← aL, bI_0 c161]; simp)]⟩)
                · refine x_iload d_Mo_differ_164 rfl ?_
                  refine x_istore d_Mo_differ_166 rfl ?_
                  exact j168 (nI k) _ (Or.inr ⟨k, rfl, by rw [hxm, show gC S - k = (gC S - (k + 1)) + 1 by omega, met_c, if_pos (by rw [hmt, ← aU, ← aL, bI_n0 c136, bI_n0 c161, eU, eL]; simp)]⟩)
  refine Ct.of (lv := [some (rf G 391), some (.int (nI V0)), some (.int (nI (40 * a + i))), some (.int (nI (40 * b + j))), none, none, none, none, none]) (ll := []) rfl rfl (EN.cat (n := 5) ⟨rfl, rfl, rfl, rfl, trivial⟩ (Nat.le_of_ble_eq_true rfl)) ?_
  first | refine x_aload_n d_Mo_differ_0 rfl rfl ?_ | refine x_aloadN_n d_Mo_differ_0 rfl rfl ?_ | refine x_aloadE_n d_Mo_differ_0 rfl rfl ?_ | refine x_aloadO_n d_Mo_differ_0 rfl rfl ?_
  first | refine x_aload_n d_Mo_differ_1 rfl rfl ?_ | refine x_aloadN_n d_Mo_differ_1 rfl rfl ?_ | refine x_aloadE_n d_Mo_differ_1 rfl rfl ?_ | refine x_aloadO_n d_Mo_differ_1 rfl rfl ?_
  refine x_getR d_Mo_differ_2 f_Mo_41 rfl (by first | exact hM.1 | exact hM.s rfl | assumption) (hM.r rfl) ?_
  refine x_iload_n d_Mo_differ_5 rfl rfl ?_
  refine x_callV2 d_Mo_differ_6 k_Mo_end l_Mo_164 v_Mo_end rfl s_Mo_end (by first | exact hM.1 | exact hM.s rfl | assumption) RoomE.m (Nat.le_of_ble_eq_true rfl) (c_Mo_end (i := i) (m := m1) hM (hM.s rfl) t4 (by omega) (by decide) t8 hm1 ?_)
  refine x_iload_n d_Mo_differ_9 rfl rfl ?_
  refine x_isub d_Mo_differ_10 ?_
  rw [hnu, nI_sub (by omega), show 40 * a + i + nu - (40 * a + i) = nu by omega]
  refine x_istore d_Mo_differ_11 rfl ?_
  first | refine x_aload_n d_Mo_differ_13 rfl rfl ?_ | refine x_aloadN_n d_Mo_differ_13 rfl rfl ?_ | refine x_aloadE_n d_Mo_differ_13 rfl rfl ?_ | refine x_aloadO_n d_Mo_differ_13 rfl rfl ?_
  first | refine x_aload_n d_Mo_differ_14 rfl rfl ?_ | refine x_aloadN_n d_Mo_differ_14 rfl rfl ?_ | refine x_aloadE_n d_Mo_differ_14 rfl rfl ?_ | refine x_aloadO_n d_Mo_differ_14 rfl rfl ?_
  refine x_getR d_Mo_differ_15 f_Mo_41 rfl (by first | exact hM.1 | exact hM.s rfl | assumption) (hM.r rfl) ?_
  refine x_iload_n d_Mo_differ_18 rfl rfl ?_
  refine x_callV2 d_Mo_differ_19 k_Mo_end l_Mo_164 v_Mo_end rfl s_Mo_end (by first | exact hM.1 | exact hM.s rfl | assumption) RoomE.m (Nat.le_of_ble_eq_true rfl) (c_Mo_end (i := j) (m := m2) hM (hM.s rfl) t5 (by omega) (by decide) t9 hm2 ?_)
  refine x_iload_n d_Mo_differ_22 rfl rfl ?_
  refine x_isub d_Mo_differ_23 ?_
  rw [hnl, nI_sub (by omega), show 40 * b + j + nl - (40 * b + j) = nl by omega]
  refine x_istore d_Mo_differ_24 rfl ?_
  refine x_iconst (v := -1) d_Mo_differ_26 (by decide) ?_
  refine x_istore d_Mo_differ_27 rfl ?_
  refine x_iconst (v := 0) d_Mo_differ_29 (by decide) ?_
  refine x_istore d_Mo_differ_30 rfl ?_
  exact Wq.fg (lp (gC S + 1) 0 (-1) none (by omega) (by omega) (Or.inl ⟨rfl, hRR.symm⟩)) ⟨rfl, rfl, rfl, rfl, rfl, rfl, rfl, by rw [nI_0], trivial⟩
