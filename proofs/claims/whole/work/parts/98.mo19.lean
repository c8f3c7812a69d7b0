/-! SuperDriverModel: split, the clause's row -/
theorem tAdd_tk {T : TS} {ab : Option Nat} {l : List Int32} : tAdd T ab (l.take 40) (decide (40 < l.length)) = tAdd T ab l false := by
  by_cases h : 40 < l.length
  · unfold tAdd
    rw [if_pos (by rw [decide_eq_true h]; exact Or.inr (Or.inr rfl)), if_pos (Or.inr (Or.inl h))]
  · rw [List.take_of_length_le (by omega), decide_eq_false h]
theorem tNK_g : ∀ {k : Nat} {T : TS} {l : List Int32}, tG T = false → tV T ≤ 100 → tG (tNK k T l).1 = decide (100 < tV T + k)
  | 0, T, l, h, hv => by
    show tG T = _
    rw [h, decide_eq_false (by omega)]
  | k + 1, T, l, h, hv => by
    show tG (tNK k (tNew T).1 (l ++ [(tNew T).2])).1 = _
    by_cases z : tV T < 100
    · have e : (tNew T).1 = (T.1, T.2.1 + 1, T.2.2.1, T.2.2.2) := by unfold tNew; rw [if_pos z]
      rw [tNK_g (T := (tNew T).1) (by rw [e]; exact h) (by rw [e]; exact z), e]
      exact decide_eq_decide.mpr (by show 100 < tV T + 1 + k ↔ _; omega)
    · have e : tG (tNew T).1 = true := by unfold tNew; rw [if_neg z]; rfl
      rw [tNK_G e, decide_eq_true (by omega)]
theorem Rt.new {σ σ' : Mem} {T T' : TS} {h : Option Nat} (hR : Rt σ T h) (hD : tD T' = tD T) (hN : tN T' = tN T) (ha : ∀ a, 400 ≤ a → a ≤ 409 → σ'.1 a = σ.1 a) (h12 : σ'.1 391 12 = 0) (h13 : σ'.1 391 13 = σ.1 391 13) (h14 : σ'.1 391 14 = nI (tV T')) : Rt σ' T' h := by
  have h0 : Rt (wI (wI σ' 391 14 (σ.1 391 14)) 391 12 (σ.1 391 12)) T h := hR.cg (fun a x y => by rw [wI_o (by omega), wI_o (by omega)]; exact ha a x y) wI_s (by rw [wI_j (by decide), wI_j (by decide)]; exact h13) (by rw [wI_j (by decide), wI_s])
  refine ⟨h12, by rw [h13, hN]; exact hR.2.1, h14, fun n hn => ?_⟩
  rw [hN] at hn
  obtain ⟨⟨r1, r2, r3, r4, r5⟩, r7⟩ := h0.2.2.2 n hn
  rw [wI_o (by decide), wI_o (by decide)] at r1 r2 r4 r5
  have r3a := r3.1
  rw [wI_o (by decide), wI_o (by decide)] at r3a
  have r3b : seg σ' 402 (40 * n) (tmn T n) := fun i hi => by
    have := r3.2 i hi
    rw [wI_o (by decide), wI_o (by decide)] at this
    exact this
  have ek : ∀ k, kd T' k = kd T k := fun k => by unfold kd; rw [hD]
  have el : ∀ k j, lkn T' k j = lkn T k j := fun k j => by unfold lkn; rw [hD]
  have et : ∀ k, tmn T' k = tmn T k := fun k => by unfold tmn; rw [hD]
  have ed : ∀ k, dt T' k = dt T k := fun k => by unfold dt; rw [hD]
  refine ⟨⟨by rw [ek]; exact r1, by rw [el]; exact r2, ⟨by rw [et]; exact r3a, by rw [et]; exact r3b⟩, by rw [ek, ed]; exact r4, by rw [ek]; exact r5⟩, fun hh => ?_⟩
  have := r7 hh
  unfold RC RK Ch at this ⊢
  rw [wI_o (by decide), wI_o (by decide), wI_o (by decide), wI_o (by decide), wI_o (by decide), wI_o (by decide), wI_o (by decide), wI_o (by decide), wI_o (by decide), wI_o (by decide)] at this
  rw [ek, hN, hD]
  simp only [el]
  exact this
theorem Rt.mark {pt : Nat → Int32} {σ σ' : Mem} {T : TS} {n m : Nat} {u w : Int32} (hR : Rt σ T (some n)) (hW : WF pt T (some n)) (h3 : lkn T m 3 = some n) (hf : FrI [408, 409] σ σ') (h8 : ∀ j, j ≠ m → σ'.1 408 j = σ.1 408 j) (h9 : ∀ j, j ≠ m → σ'.1 409 j = σ.1 409 j) : Rt σ' (tUp T m (xi (xi (tD T m) 11 u) 12 w)) (some n) := by
  have h391 : σ'.1 391 = σ.1 391 := hf.2 391 (by simp)
  have e2 : ∀ k, (tD (tUp T m (xi (xi (tD T m) 11 u) 12 w)) k).2 = (tD T k).2 := fun k => by
    by_cases z : k = m
    · subst z; rw [tD_up]; rfl
    · rw [tD_ne z]
  have e1 : ∀ k j, j ≠ 11 → j ≠ 12 → (tD (tUp T m (xi (xi (tD T m) 11 u) 12 w)) k).1 j = (tD T k).1 j := fun k j ha hb => by
    by_cases z : k = m
    · subst z; rw [tD_up, xi_o hb, xi_o ha]
    · rw [tD_ne z]
  have el : ∀ k j, lkn (tUp T m (xi (xi (tD T m) 11 u) 12 w)) k j = lkn T k j := fun k j => by unfold lkn; rw [e2]
  have et : ∀ k, tmn (tUp T m (xi (xi (tD T m) 11 u) 12 w)) k = tmn T k := fun k => by unfold tmn ntm; rw [e2]
  have ek : ∀ k, kd (tUp T m (xi (xi (tD T m) 11 u) 12 w)) k = kd T k := fun k => e1 k 7 (by decide) (by decide)
  have ed : ∀ k, dt (tUp T m (xi (xi (tD T m) 11 u) 12 w)) k = dt T k := fun k => e1 k 8 (by decide) (by decide)
  refine ⟨by rw [h391]; exact hR.1, by rw [h391]; exact hR.2.1, by rw [h391]; exact hR.2.2.1, fun k hk => ?_⟩
  have hk' : k < tN T := hk
  obtain ⟨⟨r1, r2, r3, r4, r5⟩, r7⟩ := hR.2.2.2 k hk'
  refine ⟨⟨by rw [ek, hf.2 400 (by simp)]; exact r1, by rw [el, hf.2 401 (by simp)]; exact r2, ⟨by rw [et, hf.2 403 (by simp)]; exact r3.1, by rw [et]; exact r3.2.fr hf (by simp)⟩, by rw [ek, ed, hf.2 404 (by simp)]; exact r4, by rw [ek, hf.2 406 (by simp)]; exact r5⟩, fun hh => ?_⟩
  refine (r7 hh).tr ((hW.2.2 k hk').2.2 hh) (fun b c hbc => hbc.tr (el k 4) (el k 5) (fun j _ _ => ⟨el j 3, el j 6⟩) (Nat.le_refl _)) (ek k) (e1 k 13 (by decide) (by decide)) (by rw [hf.2 405 (by simp)]) (by rw [hf.2 406 (by simp)]) (by rw [hf.2 407 (by simp)]) (fun j hj hj3 => ?_)
  have hjm : j ≠ m := fun z => by
    rw [z, h3] at hj3
    exact hh (by rw [Option.some.inj hj3])
  rw [tD_ne hjm]
  exact ⟨h8 j hjm, h9 j hjm, rfl, rfl⟩
set_option maxRecDepth 10000 in
set_option maxHeartbeats 1000000 in
theorem sp_row {G : Ctx} {D : Nat} {Γ : List Sh} {σ : Mem} {Q : Option Value → List Sh → Mem → Prop} {zs : List Int32} {n v c V : Nat} {x2 x4 : Int32} {x8 : Option Value} (hM0 : MoS Γ σ) (hn : n < 48) (hv : v < 100) (hc6 : c < 6) (hV : V ≤ 200) (hts : σ.1 403 n = nI zs.length) (hseg : seg σ 402 (40 * n) zs) (hzl : zs.length ≤ 40) (hal : al (fun _ => True) zs) (kk : ∀ τ, FrI [391, 415] σ τ → (∀ j, j ≠ 30 → τ.1 391 j = σ.1 391 j) → τ.1 391 30 = nI (zs.flatMap (sbV (nI v) ([nI (100 + c)] ++ (List.range (qK c)).map (fun i => nI (V + i))))).length → seg τ 415 0 (zs.flatMap (sbV (nI v) ([nI (100 + c)] ++ (List.range (qK c)).map (fun i => nI (V + i))))) → Wq G M_Mo_split (Em G (D + 1) 0 0 Q) 0 0 219 [some (rf G 391), some (.int (nI n)), some (.int x2), some (.int (nI v)), some (.int x4), some (.int (nI c)), some (.int (nI V)), none, none] [] [] Γ τ) : Wq G M_Mo_split (Em G (D + 1) 0 0 Q) 0 0 84 [some (rf G 391), some (.int (nI n)), some (.int x2), some (.int (nI v)), some (.int x4), some (.int (nI c)), some (.int (nI V)), none, none] [] [] Γ σ := by
  have lp : ∀ (f k : Nat) (τ : Mem) (x8 : Option Value), k ≤ zs.length → zs.length < k + f → FrI [391, 415] σ τ → (∀ j, j ≠ 30 → τ.1 391 j = σ.1 391 j) → τ.1 391 30 = nI ((zs.take k).flatMap (sbV (nI v) ([nI (100 + c)] ++ (List.range (qK c)).map (fun i => nI (V + i))))).length → seg τ 415 0 ((zs.take k).flatMap (sbV (nI v) ([nI (100 + c)] ++ (List.range (qK c)).map (fun i => nI (V + i))))) → Wq G M_Mo_split (Em G (D + 1) 0 0 Q) 0 0 95 [some (rf G 391), some (.int (nI n)), some (.int x2), some (.int (nI v)), some (.int x4), some (.int (nI c)), some (.int (nI V)), some (.int (nI (40 * n + k))), x8] [] [] Γ τ := by
    intro f
    induction f with
    | zero => intro k τ x8 h1 h2; omega
    | succ f ih =>
    intro k τ x8 hki hkf f0 h391 hsz hrow
    have hM := hM0.fr f0
    refine x_iload d_Mo_split_95 rfl ?_
    refine x_bipush (v := 40) d_Mo_split_97 (by decide) ?_
    refine x_iload_n d_Mo_split_99 rfl rfl ?_
    refine x_imul d_Mo_split_100 ?_
    rw [mul40]
    first | refine x_aload_n d_Mo_split_101 rfl rfl ?_ | refine x_aloadN_n d_Mo_split_101 rfl rfl ?_ | refine x_aloadE_n d_Mo_split_101 rfl rfl ?_ | refine x_aloadO_n d_Mo_split_101 rfl rfl ?_
    refine x_getR d_Mo_split_102 f_Mo_44 rfl (by first | exact hM.1 | exact hM.s rfl | assumption) (hM.r rfl) ?_
    refine x_iload_n d_Mo_split_105 rfl rfl ?_
    refine x_iald d_Mo_split_106 (by first | exact hM.1 | exact hM.s rfl | assumption) (vp_in_nI hn (by decide)) ?_
    rw [nI_clamp (by omega), f0.2 403 (by simp), hts]
    refine x_iadd d_Mo_split_107 ?_
    rw [nI_add]
    refine x_icmp_ge (tgt := 219) d_Mo_split_108 (by decide) (fun c108 => ?_) (fun c108 => ?_)
    · have e : k = zs.length := by have := (nI_leI (by omega) (by omega)).mp c108; omega
      rw [e, List.take_length] at hsz hrow
      exact Wq.fg (kk τ f0 h391 hsz hrow) ⟨rfl, rfl, rfl, rfl, rfl, rfl, rfl, trivial⟩
    · have hk : k < zs.length := by
        have : ¬ 40 * n + zs.length ≤ 40 * n + k := fun z => c108 (nI_le z (by omega))
        omega
      obtain ⟨s, hs4, ek, _⟩ := hal.getD hk
      have hWl : ((zs.take k).flatMap (sbV (nI v) ([nI (100 + c)] ++ (List.range (qK c)).map (fun i => nI (V + i))))).length ≤ 3 * k := by
        have := fm_le (k := 3) (f := sbV (nI v) ([nI (100 + c)] ++ (List.range (qK c)).map (fun i => nI (V + i)))) (l := zs.take k) (fun s => (sbV_len (by simp) (by have := (qK_nat c).1; simp; omega)).2)
        rw [List.length_take] at this
        omega
      have hnx : ∀ l, sbV (nI v) ([nI (100 + c)] ++ (List.range (qK c)).map (fun i => nI (V + i))) (nI s) = l → (zs.take (k + 1)).flatMap (sbV (nI v) ([nI (100 + c)] ++ (List.range (qK c)).map (fun i => nI (V + i)))) = ((zs.take k).flatMap (sbV (nI v) ([nI (100 + c)] ++ (List.range (qK c)).map (fun i => nI (V + i))))) ++ l := fun l e => by
        rw [take_s hk, List.flatMap_append, ek, List.flatMap_singleton, e]
      have j213 : ∀ (τ : Mem) (i8 : Int32), FrI [391, 415] σ τ → (∀ j, j ≠ 30 → τ.1 391 j = σ.1 391 j) → τ.1 391 30 = nI ((zs.take (k + 1)).flatMap (sbV (nI v) ([nI (100 + c)] ++ (List.range (qK c)).map (fun i => nI (V + i))))).length → seg τ 415 0 ((zs.take (k + 1)).flatMap (sbV (nI v) ([nI (100 + c)] ++ (List.range (qK c)).map (fun i => nI (V + i))))) → Wq G M_Mo_split (Em G (D + 1) 0 0 Q) 0 0 213 [some (rf G 391), some (.int (nI n)), some (.int x2), some (.int (nI v)), some (.int x4), some (.int (nI c)), some (.int (nI V)), some (.int (nI (40 * n + k))), some (.int i8)] [] [] Γ τ := by
        intro τ i8 f0 h391 hsz2 hrow2
        refine x_iinc (v := nI (40 * n + (k + 1))) d_Mo_split_213 rfl (nI_1 (40 * n + k)) rfl ?_
        refine x_goto (tgt := 95) d_Mo_split_216 (by decide) ?_
        exact Wq.fg (ih (k + 1) _ (some (.int i8)) (by omega) (by omega) f0 h391 hsz2 hrow2) ⟨rfl, rfl, rfl, rfl, rfl, rfl, rfl, rfl, rfl, trivial⟩
      first | refine x_aload_n d_Mo_split_111 rfl rfl ?_ | refine x_aloadN_n d_Mo_split_111 rfl rfl ?_ | refine x_aloadE_n d_Mo_split_111 rfl rfl ?_ | refine x_aloadO_n d_Mo_split_111 rfl rfl ?_
      refine x_getR d_Mo_split_112 f_Mo_80 rfl (by first | exact hM.1 | exact hM.s rfl | assumption) (hM.r rfl) ?_
      first | refine x_aload_n d_Mo_split_115 rfl rfl ?_ | refine x_aloadN_n d_Mo_split_115 rfl rfl ?_ | refine x_aloadE_n d_Mo_split_115 rfl rfl ?_ | refine x_aloadO_n d_Mo_split_115 rfl rfl ?_
      refine x_getI d_Mo_split_116 f_Mo_157 rfl (by first | exact hM.1 | exact hM.s rfl | assumption) ?_
      rw [hsz]
      first | refine x_aload_n d_Mo_split_119 rfl rfl ?_ | refine x_aloadN_n d_Mo_split_119 rfl rfl ?_ | refine x_aloadE_n d_Mo_split_119 rfl rfl ?_ | refine x_aloadO_n d_Mo_split_119 rfl rfl ?_
      refine x_getR d_Mo_split_120 f_Mo_41 rfl (by first | exact hM.1 | exact hM.s rfl | assumption) (hM.r rfl) ?_
      refine x_iload d_Mo_split_123 rfl ?_
      refine x_iald d_Mo_split_125 (by first | exact hM.1 | exact hM.s rfl | assumption) (vp_in_nI (show 40 * n + k < 1920 by omega) (by decide)) ?_
      rw [nI_clamp (by omega), show τ.1 402 (40 * n + k) = zs.getD k (-1) by rw [f0.2 402 (by simp)]; exact hseg k hk, ek]
      refine x_iload_n d_Mo_split_126 rfl rfl ?_
      refine x_icmp_ne (tgt := 138) d_Mo_split_127 (by decide) (fun c127 => ?_) (fun c127 => ?_)
      · first | refine x_aload_n d_Mo_split_138 rfl rfl ?_ | refine x_aloadN_n d_Mo_split_138 rfl rfl ?_ | refine x_aloadE_n d_Mo_split_138 rfl rfl ?_ | refine x_aloadO_n d_Mo_split_138 rfl rfl ?_
        refine x_getR d_Mo_split_139 f_Mo_41 rfl (by first | exact hM.1 | exact hM.s rfl | assumption) (hM.r rfl) ?_
        refine x_iload d_Mo_split_142 rfl ?_
        refine x_iald d_Mo_split_144 (by first | exact hM.1 | exact hM.s rfl | assumption) (vp_in_nI (show 40 * n + k < 1920 by omega) (by decide)) ?_
        first
        | rw [show (100 : Int32) + nI c = nI (100 + c) by rw [show (100 : Int32) = nI 100 from rfl, nI_add]]
        | rw [nI_clamp (by omega), show τ.1 402 (40 * n + k) = zs.getD k (-1) by rw [f0.2 402 (by simp)]; exact hseg k hk, ek]
        refine x_iast d_Mo_split_145 (by first | exact hM.1 | exact hM.s rfl | assumption) (vp_in_nI (show ((zs.take k).flatMap (sbV (nI v) ([nI (100 + c)] ++ (List.range (qK c)).map (fun i => nI (V + i))))).length < 20400 by omega) (by decide)) ?_
        rw [nI_clamp (by omega)]
        first | refine x_aload_n d_Mo_split_146 rfl rfl ?_ | refine x_aloadN_n d_Mo_split_146 rfl rfl ?_ | refine x_aloadE_n d_Mo_split_146 rfl rfl ?_ | refine x_aloadO_n d_Mo_split_146 rfl rfl ?_
        refine x_dup d_Mo_split_147 rfl ?_
        refine x_getI d_Mo_split_148 f_Mo_157 rfl (by first | exact hM.1 | exact hM.s rfl | assumption) ?_
        rw [wI_o (by decide), hsz]
        refine x_iconst (v := 1) d_Mo_split_151 (by decide) ?_
        refine x_iadd d_Mo_split_152 ?_
        rw [nI_1]
        refine x_putI d_Mo_split_153 (w_Mo_m_157 _) rfl (by first | rfl | decide) (by first | rfl | decide) (by first | exact hM.1 | exact hM.s rfl | assumption) ?_
        refine x_iconst (v := 0) d_Mo_split_156 (by decide) ?_
        refine x_istore d_Mo_split_157 rfl ?_
        by_cases hkv : s = v
        · try exact absurd (show nI s = nI v by rw [hkv]) c127
          all_goals
           have hsb : sbV (nI v) ([nI (100 + c)] ++ (List.range (qK c)).map (fun i => nI (V + i))) (nI s) = ([nI (100 + c)] ++ (List.range (qK c)).map (fun i => nI (V + i))) := by
             unfold sbV
             rw [if_pos ⟨by rw [isV_n (by omega)]; exact decide_eq_true (by omega), by rw [hkv]⟩]
           have hfull : (([nI (100 + c)] ++ (List.range (qK c)).map (fun i => nI (V + i))).take (qK c + 1)) = ([nI (100 + c)] ++ (List.range (qK c)).map (fun i => nI (V + i))) := List.take_of_length_le (by simp)
           have hPl : ([nI (100 + c)] ++ (List.range (qK c)).map (fun i => nI (V + i))).length = qK c + 1 := by simp
           have hq2 := (qK_nat c).1
           have inn : ∀ (f i : Nat) (τ : Mem), i ≤ qK c → qK c < i + f → FrI [391, 415] σ τ → (∀ j, j ≠ 30 → τ.1 391 j = σ.1 391 j) → τ.1 391 30 = nI (((zs.take k).flatMap (sbV (nI v) ([nI (100 + c)] ++ (List.range (qK c)).map (fun i => nI (V + i))))) ++ ([nI (100 + c)] ++ (List.range (qK c)).map (fun i => nI (V + i))).take (i + 1)).length → seg τ 415 0 (((zs.take k).flatMap (sbV (nI v) ([nI (100 + c)] ++ (List.range (qK c)).map (fun i => nI (V + i))))) ++ ([nI (100 + c)] ++ (List.range (qK c)).map (fun i => nI (V + i))).take (i + 1)) → Wq G M_Mo_split (Em G (D + 1) 0 0 Q) 0 0 159 [some (rf G 391), some (.int (nI n)), some (.int x2), some (.int (nI v)), some (.int x4), some (.int (nI c)), some (.int (nI V)), some (.int (nI (40 * n + k))), some (.int (nI i))] [] [] Γ τ := by
             intro f
             induction f with
             | zero => intro i τ h1 h2; omega
             | succ f ih =>
             intro i τ hi hkf f0 h391 hsz hrow
             have hM := hM0.fr f0
             have hlen : (((zs.take k).flatMap (sbV (nI v) ([nI (100 + c)] ++ (List.range (qK c)).map (fun i => nI (V + i))))) ++ ([nI (100 + c)] ++ (List.range (qK c)).map (fun i => nI (V + i))).take (i + 1)).length ≤ 3 * k + 3 := by
               rw [List.length_append, List.length_take]; omega
             refine x_iload d_Mo_split_159 rfl ?_
             refine x_bipush (v := 100) d_Mo_split_161 (by decide) ?_
             refine x_iload d_Mo_split_163 rfl ?_
             refine x_iadd d_Mo_split_165 ?_
             rw [show (100 : Int32) + nI c = nI (100 + c) by rw [show (100 : Int32) = nI 100 from rfl, nI_add]]
             refine x_callS1 d_Mo_split_166 k_Mo_builtOf l_Mo_120 z_Mo_builtOf RoomE.m (Nat.le_of_ble_eq_true rfl) (c_Mo_builtOf ?_)
             rw [bO_c hc6, (qK_nat c).2]
             refine x_icmp_ge (tgt := 213) d_Mo_split_169 (by decide) (fun c169 => ?_) (fun c169 => ?_)
             · have e : i = qK c := by have := (nI_leI (by omega) (by omega)).mp c169; omega
               subst e
               exact j213 τ _ f0 h391 (by rw [hfull] at hsz; rw [hnx _ hsb]; exact hsz) (by rw [hfull] at hrow; rw [hnx _ hsb]; exact hrow)
             · have hiq : i < qK c := Nat.not_le.mp fun z => c169 (nI_le z (by omega))
               first | refine x_aload_n d_Mo_split_172 rfl rfl ?_ | refine x_aloadN_n d_Mo_split_172 rfl rfl ?_ | refine x_aloadE_n d_Mo_split_172 rfl rfl ?_ | refine x_aloadO_n d_Mo_split_172 rfl rfl ?_
               refine x_getR d_Mo_split_173 f_Mo_41 rfl (by first | exact hM.1 | exact hM.s rfl | assumption) (hM.r rfl) ?_
               refine x_iload d_Mo_split_176 rfl ?_
               refine x_iald d_Mo_split_178 (by first | exact hM.1 | exact hM.s rfl | assumption) (vp_in_nI (show 40 * n + k < 1920 by omega) (by decide)) ?_
               rw [nI_clamp (by omega), show τ.1 402 (40 * n + k) = zs.getD k (-1) by rw [f0.2 402 (by simp)]; exact hseg k hk, ek]
               refine x_iload_n d_Mo_split_179 rfl rfl ?_
               refine x_icmp_ne (tgt := 213) d_Mo_split_180 (by decide) (fun c180 => ?_) (fun c180 => ?_)
               · exact absurd (by rw [hkv]) c180
               · first | refine x_aload_n d_Mo_split_183 rfl rfl ?_ | refine x_aloadN_n d_Mo_split_183 rfl rfl ?_ | refine x_aloadE_n d_Mo_split_183 rfl rfl ?_ | refine x_aloadO_n d_Mo_split_183 rfl rfl ?_
                 refine x_getR d_Mo_split_184 f_Mo_80 rfl (by first | exact hM.1 | exact hM.s rfl | assumption) (hM.r rfl) ?_
                 first | refine x_aload_n d_Mo_split_187 rfl rfl ?_ | refine x_aloadN_n d_Mo_split_187 rfl rfl ?_ | refine x_aloadE_n d_Mo_split_187 rfl rfl ?_ | refine x_aloadO_n d_Mo_split_187 rfl rfl ?_
                 refine x_getI d_Mo_split_188 f_Mo_157 rfl (by first | exact hM.1 | exact hM.s rfl | assumption) ?_
                 rw [hsz]
                 refine x_iload d_Mo_split_191 rfl ?_
                 refine x_iload d_Mo_split_193 rfl ?_
                 refine x_iadd d_Mo_split_195 ?_
                 rw [nI_add]
                 refine x_iast d_Mo_split_196 (by first | exact hM.1 | exact hM.s rfl | assumption) (vp_in_nI (show (((zs.take k).flatMap (sbV (nI v) ([nI (100 + c)] ++ (List.range (qK c)).map (fun i => nI (V + i))))) ++ ([nI (100 + c)] ++ (List.range (qK c)).map (fun i => nI (V + i))).take (i + 1)).length < 20400 by omega) (by decide)) ?_
                 rw [nI_clamp (by omega)]
                 first | refine x_aload_n d_Mo_split_197 rfl rfl ?_ | refine x_aloadN_n d_Mo_split_197 rfl rfl ?_ | refine x_aloadE_n d_Mo_split_197 rfl rfl ?_ | refine x_aloadO_n d_Mo_split_197 rfl rfl ?_
                 refine x_dup d_Mo_split_198 rfl ?_
                 refine x_getI d_Mo_split_199 f_Mo_157 rfl (by first | exact hM.1 | exact hM.s rfl | assumption) ?_
                 rw [wI_o (by decide), hsz]
                 refine x_iconst (v := 1) d_Mo_split_202 (by decide) ?_
                 refine x_iadd d_Mo_split_203 ?_
                 rw [nI_1]
                 refine x_putI d_Mo_split_204 (w_Mo_m_157 _) rfl (by first | rfl | decide) (by first | rfl | decide) (by first | exact hM.1 | exact hM.s rfl | assumption) ?_
                 refine x_iinc (v := nI (i + 1)) d_Mo_split_207 rfl (nI_1 i) rfl ?_
                 refine x_goto (tgt := 159) d_Mo_split_210 (by decide) ?_
                 have hps : ([nI (100 + c)] ++ (List.range (qK c)).map (fun i => nI (V + i))).take (i + 1 + 1) = ([nI (100 + c)] ++ (List.range (qK c)).map (fun i => nI (V + i))).take (i + 1) ++ [nI (V + i)] := by
                   rw [take_s (by simp; omega)]
                   congr 1
                   congr 1
                   show (List.map (fun i => nI (V + i)) (List.range (qK c))).getD i (-1) = nI (V + i)
                   rw [List.getD_eq_getElem?_getD, List.getElem?_map, List.getElem?_range hiq]; rfl
                 exact Wq.fg (ih (i + 1) _ (by omega) (by omega) ((f0.put (by simp)).put (by simp)) (fun j hj => by rw [wI_j hj, wI_o (by decide)]; exact h391 j hj) (by
                   rw [wI_s, hps, ← List.append_assoc, List.length_append (bs := [nI (V + i)])]; rfl) (by
                   rw [hps, ← List.append_assoc]
                   intro j hj
                   rw [wI_o (by decide)]
                   exact seg_app hrow (by omega) j hj)) ⟨rfl, rfl, rfl, rfl, rfl, rfl, rfl, rfl, rfl, trivial⟩
           refine Wq.fg (inn (qK c + 1) 0 _ (by omega) (by omega) ((f0.put (by simp)).put (by simp)) (fun j hj => by rw [wI_j hj, wI_o (by decide)]; exact h391 j hj) (by
             rw [wI_s, List.length_append]; rfl) (fun j hj => by
             rw [wI_o (by decide)]
             exact seg_app hrow (by omega) j hj)) ⟨rfl, rfl, rfl, rfl, rfl, rfl, rfl, rfl, by rw [nI_0], trivial⟩
        · try exact absurd (nI_inj c127 (by omega) (by omega)) hkv
          all_goals
           have hsb : sbV (nI v) ([nI (100 + c)] ++ (List.range (qK c)).map (fun i => nI (V + i))) (nI s) = [nI s] := by
             unfold sbV
             rw [if_neg (fun z => c127 z.2)]
           refine x_iload d_Mo_split_159 rfl ?_
           refine x_bipush (v := 100) d_Mo_split_161 (by decide) ?_
           refine x_iload d_Mo_split_163 rfl ?_
           refine x_iadd d_Mo_split_165 ?_
           refine x_callS1 d_Mo_split_166 k_Mo_builtOf l_Mo_120 z_Mo_builtOf RoomE.m (Nat.le_of_ble_eq_true rfl) (c_Mo_builtOf ?_)
           have hfin : ∀ i8 : Int32, Wq G M_Mo_split (Em G (D + 1) 0 0 Q) 0 0 213 [some (rf G 391), some (.int (nI n)), some (.int x2), some (.int (nI v)), some (.int x4), some (.int (nI c)), some (.int (nI V)), some (.int (nI (40 * n + k))), some (.int i8)] [] [] Γ (wI (wI τ 415 ((zs.take k).flatMap (sbV (nI v) ([nI (100 + c)] ++ (List.range (qK c)).map (fun i => nI (V + i))))).length (nI s)) 391 30 (nI (((zs.take k).flatMap (sbV (nI v) ([nI (100 + c)] ++ (List.range (qK c)).map (fun i => nI (V + i))))).length + 1))) := fun i8 => j213 _ i8 ((f0.put (by simp)).put (by simp)) (fun j hj => by rw [wI_j hj, wI_o (by decide)]; exact h391 j hj) (by
             rw [wI_s, hnx _ hsb, List.length_append]; rfl) (fun j hj => by
             rw [wI_o (by decide)]
             rw [hnx _ hsb] at hj ⊢
             exact seg_app hrow (by omega) j hj)
           refine x_icmp_ge (tgt := 213) d_Mo_split_169 (by decide) (fun c169 => hfin 0) (fun c169 => ?_)
           first | refine x_aload_n d_Mo_split_172 rfl rfl ?_ | refine x_aloadN_n d_Mo_split_172 rfl rfl ?_ | refine x_aloadE_n d_Mo_split_172 rfl rfl ?_ | refine x_aloadO_n d_Mo_split_172 rfl rfl ?_
           refine x_getR d_Mo_split_173 f_Mo_41 rfl (by first | exact hM.1 | exact hM.s rfl | assumption) (hM.r rfl) ?_
           refine x_iload d_Mo_split_176 rfl ?_
           refine x_iald d_Mo_split_178 (by first | exact hM.1 | exact hM.s rfl | assumption) (vp_in_nI (show 40 * n + k < 1920 by omega) (by decide)) ?_
           rw [nI_clamp (by omega), wI_o (by decide), wI_o (by decide), show τ.1 402 (40 * n + k) = zs.getD k (-1) by rw [f0.2 402 (by simp)]; exact hseg k hk, ek]
           refine x_iload_n d_Mo_split_179 rfl rfl ?_
           refine x_icmp_ne (tgt := 213) d_Mo_split_180 (by decide) (fun c180 => ?_) (fun c180 => ?_)
           · exact hfin 0
           · exact absurd c180 c127
      · refine x_bipush (v := 100) d_Mo_split_130 (by decide) ?_
        refine x_iload d_Mo_split_132 rfl ?_
        refine x_iadd d_Mo_split_134 ?_
        refine x_goto (tgt := 145) d_Mo_split_135 (by decide) ?_
        first
        | rw [show (100 : Int32) + nI c = nI (100 + c) by rw [show (100 : Int32) = nI 100 from rfl, nI_add]]
        | rw [nI_clamp (by omega), show τ.1 402 (40 * n + k) = zs.getD k (-1) by rw [f0.2 402 (by simp)]; exact hseg k hk, ek]
        refine x_iast d_Mo_split_145 (by first | exact hM.1 | exact hM.s rfl | assumption) (vp_in_nI (show ((zs.take k).flatMap (sbV (nI v) ([nI (100 + c)] ++ (List.range (qK c)).map (fun i => nI (V + i))))).length < 20400 by omega) (by decide)) ?_
        rw [nI_clamp (by omega)]
        first | refine x_aload_n d_Mo_split_146 rfl rfl ?_ | refine x_aloadN_n d_Mo_split_146 rfl rfl ?_ | refine x_aloadE_n d_Mo_split_146 rfl rfl ?_ | refine x_aloadO_n d_Mo_split_146 rfl rfl ?_
        refine x_dup d_Mo_split_147 rfl ?_
        refine x_getI d_Mo_split_148 f_Mo_157 rfl (by first | exact hM.1 | exact hM.s rfl | assumption) ?_
        rw [wI_o (by decide), hsz]
        refine x_iconst (v := 1) d_Mo_split_151 (by decide) ?_
        refine x_iadd d_Mo_split_152 ?_
        rw [nI_1]
        refine x_putI d_Mo_split_153 (w_Mo_m_157 _) rfl (by first | rfl | decide) (by first | rfl | decide) (by first | exact hM.1 | exact hM.s rfl | assumption) ?_
        refine x_iconst (v := 0) d_Mo_split_156 (by decide) ?_
        refine x_istore d_Mo_split_157 rfl ?_
        by_cases hkv : s = v
        · try exact absurd (show nI s = nI v by rw [hkv]) c127
          all_goals
           have hsb : sbV (nI v) ([nI (100 + c)] ++ (List.range (qK c)).map (fun i => nI (V + i))) (nI s) = ([nI (100 + c)] ++ (List.range (qK c)).map (fun i => nI (V + i))) := by
             unfold sbV
             rw [if_pos ⟨by rw [isV_n (by omega)]; exact decide_eq_true (by omega), by rw [hkv]⟩]
           have hfull : (([nI (100 + c)] ++ (List.range (qK c)).map (fun i => nI (V + i))).take (qK c + 1)) = ([nI (100 + c)] ++ (List.range (qK c)).map (fun i => nI (V + i))) := List.take_of_length_le (by simp)
           have hPl : ([nI (100 + c)] ++ (List.range (qK c)).map (fun i => nI (V + i))).length = qK c + 1 := by simp
           have hq2 := (qK_nat c).1
           have inn : ∀ (f i : Nat) (τ : Mem), i ≤ qK c → qK c < i + f → FrI [391, 415] σ τ → (∀ j, j ≠ 30 → τ.1 391 j = σ.1 391 j) → τ.1 391 30 = nI (((zs.take k).flatMap (sbV (nI v) ([nI (100 + c)] ++ (List.range (qK c)).map (fun i => nI (V + i))))) ++ ([nI (100 + c)] ++ (List.range (qK c)).map (fun i => nI (V + i))).take (i + 1)).length → seg τ 415 0 (((zs.take k).flatMap (sbV (nI v) ([nI (100 + c)] ++ (List.range (qK c)).map (fun i => nI (V + i))))) ++ ([nI (100 + c)] ++ (List.range (qK c)).map (fun i => nI (V + i))).take (i + 1)) → Wq G M_Mo_split (Em G (D + 1) 0 0 Q) 0 0 159 [some (rf G 391), some (.int (nI n)), some (.int x2), some (.int (nI v)), some (.int x4), some (.int (nI c)), some (.int (nI V)), some (.int (nI (40 * n + k))), some (.int (nI i))] [] [] Γ τ := by
             intro f
             induction f with
             | zero => intro i τ h1 h2; omega
             | succ f ih =>
             intro i τ hi hkf f0 h391 hsz hrow
             have hM := hM0.fr f0
             have hlen : (((zs.take k).flatMap (sbV (nI v) ([nI (100 + c)] ++ (List.range (qK c)).map (fun i => nI (V + i))))) ++ ([nI (100 + c)] ++ (List.range (qK c)).map (fun i => nI (V + i))).take (i + 1)).length ≤ 3 * k + 3 := by
               rw [List.length_append, List.length_take]; omega
             refine x_iload d_Mo_split_159 rfl ?_
             refine x_bipush (v := 100) d_Mo_split_161 (by decide) ?_
             refine x_iload d_Mo_split_163 rfl ?_
             refine x_iadd d_Mo_split_165 ?_
             rw [show (100 : Int32) + nI c = nI (100 + c) by rw [show (100 : Int32) = nI 100 from rfl, nI_add]]
             refine x_callS1 d_Mo_split_166 k_Mo_builtOf l_Mo_120 z_Mo_builtOf RoomE.m (Nat.le_of_ble_eq_true rfl) (c_Mo_builtOf ?_)
             rw [bO_c hc6, (qK_nat c).2]
             refine x_icmp_ge (tgt := 213) d_Mo_split_169 (by decide) (fun c169 => ?_) (fun c169 => ?_)
             · have e : i = qK c := by have := (nI_leI (by omega) (by omega)).mp c169; omega
               subst e
               exact j213 τ _ f0 h391 (by rw [hfull] at hsz; rw [hnx _ hsb]; exact hsz) (by rw [hfull] at hrow; rw [hnx _ hsb]; exact hrow)
             · have hiq : i < qK c := Nat.not_le.mp fun z => c169 (nI_le z (by omega))
               first | refine x_aload_n d_Mo_split_172 rfl rfl ?_ | refine x_aloadN_n d_Mo_split_172 rfl rfl ?_ | refine x_aloadE_n d_Mo_split_172 rfl rfl ?_ | refine x_aloadO_n d_Mo_split_172 rfl rfl ?_
               refine x_getR d_Mo_split_173 f_Mo_41 rfl (by first | exact hM.1 | exact hM.s rfl | assumption) (hM.r rfl) ?_
               refine x_iload d_Mo_split_176 rfl ?_
               refine x_iald d_Mo_split_178 (by first | exact hM.1 | exact hM.s rfl | assumption) (vp_in_nI (show 40 * n + k < 1920 by omega) (by decide)) ?_
               rw [nI_clamp (by omega), show τ.1 402 (40 * n + k) = zs.getD k (-1) by rw [f0.2 402 (by simp)]; exact hseg k hk, ek]
               refine x_iload_n d_Mo_split_179 rfl rfl ?_
               refine x_icmp_ne (tgt := 213) d_Mo_split_180 (by decide) (fun c180 => ?_) (fun c180 => ?_)
               · exact absurd (by rw [hkv]) c180
               · first | refine x_aload_n d_Mo_split_183 rfl rfl ?_ | refine x_aloadN_n d_Mo_split_183 rfl rfl ?_ | refine x_aloadE_n d_Mo_split_183 rfl rfl ?_ | refine x_aloadO_n d_Mo_split_183 rfl rfl ?_
                 refine x_getR d_Mo_split_184 f_Mo_80 rfl (by first | exact hM.1 | exact hM.s rfl | assumption) (hM.r rfl) ?_
                 first | refine x_aload_n d_Mo_split_187 rfl rfl ?_ | refine x_aloadN_n d_Mo_split_187 rfl rfl ?_ | refine x_aloadE_n d_Mo_split_187 rfl rfl ?_ | refine x_aloadO_n d_Mo_split_187 rfl rfl ?_
                 refine x_getI d_Mo_split_188 f_Mo_157 rfl (by first | exact hM.1 | exact hM.s rfl | assumption) ?_
                 rw [hsz]
                 refine x_iload d_Mo_split_191 rfl ?_
                 refine x_iload d_Mo_split_193 rfl ?_
                 refine x_iadd d_Mo_split_195 ?_
                 rw [nI_add]
                 refine x_iast d_Mo_split_196 (by first | exact hM.1 | exact hM.s rfl | assumption) (vp_in_nI (show (((zs.take k).flatMap (sbV (nI v) ([nI (100 + c)] ++ (List.range (qK c)).map (fun i => nI (V + i))))) ++ ([nI (100 + c)] ++ (List.range (qK c)).map (fun i => nI (V + i))).take (i + 1)).length < 20400 by omega) (by decide)) ?_
                 rw [nI_clamp (by omega)]
                 first | refine x_aload_n d_Mo_split_197 rfl rfl ?_ | refine x_aloadN_n d_Mo_split_197 rfl rfl ?_ | refine x_aloadE_n d_Mo_split_197 rfl rfl ?_ | refine x_aloadO_n d_Mo_split_197 rfl rfl ?_
                 refine x_dup d_Mo_split_198 rfl ?_
                 refine x_getI d_Mo_split_199 f_Mo_157 rfl (by first | exact hM.1 | exact hM.s rfl | assumption) ?_
                 rw [wI_o (by decide), hsz]
                 refine x_iconst (v := 1) d_Mo_split_202 (by decide) ?_
                 refine x_iadd d_Mo_split_203 ?_
                 rw [nI_1]
                 refine x_putI d_Mo_split_204 (w_Mo_m_157 _) rfl (by first | rfl | decide) (by first | rfl | decide) (by first | exact hM.1 | exact hM.s rfl | assumption) ?_
                 refine x_iinc (v := nI (i + 1)) d_Mo_split_207 rfl (nI_1 i) rfl ?_
                 refine x_goto (tgt := 159) d_Mo_split_210 (by decide) ?_
                 have hps : ([nI (100 + c)] ++ (List.range (qK c)).map (fun i => nI (V + i))).take (i + 1 + 1) = ([nI (100 + c)] ++ (List.range (qK c)).map (fun i => nI (V + i))).take (i + 1) ++ [nI (V + i)] := by
                   rw [take_s (by simp; omega)]
                   congr 1
                   congr 1
                   show (List.map (fun i => nI (V + i)) (List.range (qK c))).getD i (-1) = nI (V + i)
                   rw [List.getD_eq_getElem?_getD, List.getElem?_map, List.getElem?_range hiq]; rfl
                 exact Wq.fg (ih (i + 1) _ (by omega) (by omega) ((f0.put (by simp)).put (by simp)) (fun j hj => by rw [wI_j hj, wI_o (by decide)]; exact h391 j hj) (by
                   rw [wI_s, hps, ← List.append_assoc, List.length_append (bs := [nI (V + i)])]; rfl) (by
                   rw [hps, ← List.append_assoc]
                   intro j hj
                   rw [wI_o (by decide)]
                   exact seg_app hrow (by omega) j hj)) ⟨rfl, rfl, rfl, rfl, rfl, rfl, rfl, rfl, rfl, trivial⟩
           refine Wq.fg (inn (qK c + 1) 0 _ (by omega) (by omega) ((f0.put (by simp)).put (by simp)) (fun j hj => by rw [wI_j hj, wI_o (by decide)]; exact h391 j hj) (by
             rw [wI_s, List.length_append]; rfl) (fun j hj => by
             rw [wI_o (by decide)]
             exact seg_app hrow (by omega) j hj)) ⟨rfl, rfl, rfl, rfl, rfl, rfl, rfl, rfl, by rw [nI_0], trivial⟩
        · try exact absurd (nI_inj c127 (by omega) (by omega)) hkv
          all_goals
           have hsb : sbV (nI v) ([nI (100 + c)] ++ (List.range (qK c)).map (fun i => nI (V + i))) (nI s) = [nI s] := by
             unfold sbV
             rw [if_neg (fun z => c127 z.2)]
           refine x_iload d_Mo_split_159 rfl ?_
           refine x_bipush (v := 100) d_Mo_split_161 (by decide) ?_
           refine x_iload d_Mo_split_163 rfl ?_
           refine x_iadd d_Mo_split_165 ?_
           refine x_callS1 d_Mo_split_166 k_Mo_builtOf l_Mo_120 z_Mo_builtOf RoomE.m (Nat.le_of_ble_eq_true rfl) (c_Mo_builtOf ?_)
           have hfin : ∀ i8 : Int32, Wq G M_Mo_split (Em G (D + 1) 0 0 Q) 0 0 213 [some (rf G 391), some (.int (nI n)), some (.int x2), some (.int (nI v)), some (.int x4), some (.int (nI c)), some (.int (nI V)), some (.int (nI (40 * n + k))), some (.int i8)] [] [] Γ (wI (wI τ 415 ((zs.take k).flatMap (sbV (nI v) ([nI (100 + c)] ++ (List.range (qK c)).map (fun i => nI (V + i))))).length (nI s)) 391 30 (nI (((zs.take k).flatMap (sbV (nI v) ([nI (100 + c)] ++ (List.range (qK c)).map (fun i => nI (V + i))))).length + 1))) := fun i8 => j213 _ i8 ((f0.put (by simp)).put (by simp)) (fun j hj => by rw [wI_j hj, wI_o (by decide)]; exact h391 j hj) (by
             rw [wI_s, hnx _ hsb, List.length_append]; rfl) (fun j hj => by
             rw [wI_o (by decide)]
             rw [hnx _ hsb] at hj ⊢
             exact seg_app hrow (by omega) j hj)
           refine x_icmp_ge (tgt := 213) d_Mo_split_169 (by decide) (fun c169 => hfin 0) (fun c169 => ?_)
           first | refine x_aload_n d_Mo_split_172 rfl rfl ?_ | refine x_aloadN_n d_Mo_split_172 rfl rfl ?_ | refine x_aloadE_n d_Mo_split_172 rfl rfl ?_ | refine x_aloadO_n d_Mo_split_172 rfl rfl ?_
           refine x_getR d_Mo_split_173 f_Mo_41 rfl (by first | exact hM.1 | exact hM.s rfl | assumption) (hM.r rfl) ?_
           refine x_iload d_Mo_split_176 rfl ?_
           refine x_iald d_Mo_split_178 (by first | exact hM.1 | exact hM.s rfl | assumption) (vp_in_nI (show 40 * n + k < 1920 by omega) (by decide)) ?_
           rw [nI_clamp (by omega), wI_o (by decide), wI_o (by decide), show τ.1 402 (40 * n + k) = zs.getD k (-1) by rw [f0.2 402 (by simp)]; exact hseg k hk, ek]
           refine x_iload_n d_Mo_split_179 rfl rfl ?_
           refine x_icmp_ne (tgt := 213) d_Mo_split_180 (by decide) (fun c180 => ?_) (fun c180 => ?_)
           · exact hfin 0
           · exact absurd c180 c127
  have hM := hM0
  first | refine x_aload_n d_Mo_split_84 rfl rfl ?_ | refine x_aloadN_n d_Mo_split_84 rfl rfl ?_ | refine x_aloadE_n d_Mo_split_84 rfl rfl ?_ | refine x_aloadO_n d_Mo_split_84 rfl rfl ?_
  refine x_iconst (v := 0) d_Mo_split_85 (by decide) ?_
  refine x_putI d_Mo_split_86 (w_Mo_m_157 _) rfl (by first | rfl | decide) (by first | rfl | decide) (by first | exact hM.1 | exact hM.s rfl | assumption) ?_
  refine x_bipush (v := 40) d_Mo_split_89 (by decide) ?_
  refine x_iload_n d_Mo_split_91 rfl rfl ?_
  refine x_imul d_Mo_split_92 ?_
  rw [mul40]
  refine x_istore d_Mo_split_93 rfl ?_
  exact Wq.fg (lp (zs.length + 1) 0 _ none (by omega) (by omega) (FrI.rf.put (by simp)) (fun j hj => wI_j hj) (by rw [wI_s, List.take_zero]; exact nI_0.symm) (by rw [List.take_zero]; exact seg.nil)) ⟨rfl, rfl, rfl, rfl, rfl, rfl, rfl, rfl, trivial⟩
