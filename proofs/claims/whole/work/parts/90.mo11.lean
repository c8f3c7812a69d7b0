/-! SuperDriverModel: isEmbedded, isRenaming, rival -/
theorem cplB_n {P : Int32 → Int32} {zi zo : List Int32} {Mt : Nat → Nat → Bool} {i j s1 s2 : Nat} (h1 : s1 ≤ 400) (h2 : s2 ≤ 400) (e1 : zi.getD i (-1) = nI s1) (e2 : zo.getD j (-1) = nI s2) : cplB P zi zo Mt i j = if s1 < 100 ∧ s2 < 100 then true else (decide (s1 = s2) && (List.range (nP P (zi.getD i (-1)))).all (fun k => Mt (ends P zi (i + 1) k) (ends P zo (j + 1) k))) := by
  unfold cplB
  rw [e1, e2, isV_n (by omega), isV_n (by omega)]
  by_cases a1 : s1 < 100
  · by_cases a2 : s2 < 100
    · rw [decide_eq_true a1, decide_eq_true a2, if_pos (show (true || true) = true from rfl), if_pos (show s1 < 100 ∧ s2 < 100 from ⟨a1, a2⟩)]; rfl
    · rw [decide_eq_true a1, decide_eq_false a2, if_pos (show (true || false) = true from rfl), if_neg (show ¬ (s1 < 100 ∧ s2 < 100) from fun z => a2 z.2), decide_eq_false (show ¬ s1 = s2 by omega)]; rfl
  · by_cases a2 : s2 < 100
    · rw [decide_eq_false a1, decide_eq_true a2, if_pos (show (false || true) = true from rfl), if_neg (show ¬ (s1 < 100 ∧ s2 < 100) from fun z => a1 z.1), decide_eq_false (show ¬ s1 = s2 by omega)]; rfl
    · rw [decide_eq_false a1, decide_eq_false a2, if_neg (show ¬ (false || false) = true by decide), if_neg (show ¬ (s1 < 100 ∧ s2 < 100) from fun z => a1 z.1)]
      congr 1
      exact decide_eq_decide.mpr ⟨fun z => nI_inj z (by omega) (by omega), fun z => by rw [z]⟩
theorem lsub_rf : ∀ {l : List (Option Value)}, lsub l l
  | [] => trivial
  | none :: l => lsub_rf (l := l)
  | some v :: l => ⟨rfl, lsub_rf (l := l)⟩
set_option maxRecDepth 10000 in
set_option maxHeartbeats 1000000 in
theorem c_Mo_isEmbedded {G : Ctx} {d : Nat} {Γ : List Sh} {σ : Mem} {Q : Option Value → List Sh → Mem → Prop} {P : Int32 → Int32} {a b : Nat} {zs ws : List Int32} (hM : MoS Γ σ) (hP : PB P) (hv0 : ∀ s, isV s = true → nP P s = 0) (hT : twT σ (nP P) a b zs ws) (hsa : σ.1 403 a = nI zs.length) (hsb : σ.1 403 b = nI ws.length) (hQ : ∀ τ, FrI [421] σ τ → Q (some (.int (bI (embB P zs ws)))) Γ τ) : Ct G M_Mo_isEmbedded (d + 4) 0 0 [rf G 391, .int (nI a), .int (nI b)] Γ σ Q := by
  obtain ⟨t1, t2, ⟨t3, t3b⟩, t4, t5, t6, t7, t8, t9⟩ := id hT
  have lj : ∀ (i c : Nat) (τ : Mem) (x5 x6 x7 x8 x9 : Option Value), i < zs.length → c ≤ ws.length → FrI [421] σ τ → (∀ i2 j2, i2 < zs.length → j2 < ws.length → (i < i2 ∨ (i2 = i ∧ c ≤ j2)) → τ.1 421 (40 * i2 + j2) = bI (Fm P zs ws i2 j2)) → (∀ (τ : Mem) (x4 x5 x6 x7 x8 x9 : Option Value), FrI [421] σ τ → (∀ i2 j2, i2 < zs.length → j2 < ws.length → i ≤ i2 → τ.1 421 (40 * i2 + j2) = bI (Fm P zs ws i2 j2)) → Wq G M_Mo_isEmbedded (Em G (d + 4) 0 0 Q) 0 0 212 [some (rf G 391), some (.int (nI a)), some (.int (nI b)), some (.int (nI i)), x4, x5, x6, x7, x8, x9] [] [] Γ τ) → Wq G M_Mo_isEmbedded (Em G (d + 4) 0 0 Q) 0 0 23 [some (rf G 391), some (.int (nI a)), some (.int (nI b)), some (.int (nI i)), some (.int (nI c - 1)), x5, x6, x7, x8, x9] [] [] Γ τ := by
    intro i c
    induction c with
    | zero =>
      intro τ x5 x6 x7 x8 x9 hi hc f0 hE kk
      rw [show nI 0 - 1 = (-1 : Int32) by decide]
      refine x_iload d_Mo_isEmbedded_23 rfl ?_
      refine x_if_lt (tgt := 212) d_Mo_isEmbedded_25 (by decide) (fun c25 => ?_) (fun c25 => ?_)
      · exact Wq.fg (kk τ (some (.int (-1))) x5 x6 x7 x8 x9 f0 (fun i2 j2 h1 h2 h3 => hE i2 j2 h1 h2 (by omega))) ⟨rfl, rfl, rfl, rfl, rfl, lsub_rf⟩
      · exact absurd (by decide) c25
    | succ j ihj0 =>
      intro τ x5 x6 x7 x8 x9 hi hc f0 hE kk
      have hj : j < ws.length := hc
      have hM := hM.fr f0
      have hT := hT.fr f0 (by simp) (by simp) (by simp)
      obtain ⟨t1, t2, ⟨t3, t3b⟩, t4, t5, t6, t7, t8, t9⟩ := id hT
      have ihj : ∀ (τ : Mem) (x5 x6 x7 x8 x9 : Option Value), _ → _ → _ → _ := fun τ x5 x6 x7 x8 x9 h1 h2 h3 => ihj0 τ x5 x6 x7 x8 x9 hi h1 h2 h3 kk
      rw [nI_pred]
      obtain ⟨s1, ez, hok1, hpk1, hq1⟩ := t8.getD hi
      obtain ⟨s2, ew, hok2, hpk2, hq2⟩ := t9.getD hj
      have hs14 := hok1.le
      have hs24 := hok2.le
      rw [ez] at hpk1 hq1
      rw [ew] at hpk2 hq2
      have hV := Fm_eq (zi := zs) (i := i) hP (show ws.length ≤ 10000 by omega) t7 hj
      generalize hn : nP P (nI s2) = n at hpk2 hq2
      have j192 : ∀ (g : Bool) (x8 x9 : Int32), g = Fm P zs ws i j → Wq G M_Mo_isEmbedded (Em G (d + 4) 0 0 Q) 0 0 192 [some (rf G 391), some (.int (nI a)), some (.int (nI b)), some (.int (nI i)), some (.int (nI j)), some (.int (nI (40 * a + i))), some (.int (nI (40 * b + j))), some (.int (bI g)), some (.int x8), some (.int x9)] [] [] Γ τ := by
        intro g x8 x9 hg
        first | refine x_aload_n d_Mo_isEmbedded_192 rfl rfl ?_ | refine x_aloadN_n d_Mo_isEmbedded_192 rfl rfl ?_ | refine x_aloadE_n d_Mo_isEmbedded_192 rfl rfl ?_ | refine x_aloadO_n d_Mo_isEmbedded_192 rfl rfl ?_
        refine x_getR d_Mo_isEmbedded_193 f_Mo_98 rfl (by first | exact hM.1 | exact hM.s rfl | assumption) (hM.r rfl) ?_
        refine x_bipush (v := 40) d_Mo_isEmbedded_196 (by decide) ?_
        refine x_iload_n d_Mo_isEmbedded_198 rfl rfl ?_
        refine x_imul d_Mo_isEmbedded_199 ?_
        first | rw [mul40] | rw [mul24] | rw [mul100] | rw [mul7] | skip
        refine x_iload d_Mo_isEmbedded_200 rfl ?_
        refine x_iadd d_Mo_isEmbedded_202 ?_
        first | rw [nI_add] | rw [nI_1] | skip
        refine x_iload d_Mo_isEmbedded_203 rfl ?_
        refine x_zast d_Mo_isEmbedded_205 (by first | exact hM.1 | exact hM.s rfl | assumption) (vp_in_nI (show 40 * i + j < 1600 by omega) (by decide)) (by cases g <;> rfl) ?_
        rw [nI_clamp (by omega)]
        refine x_iinc (v := nI j - 1) d_Mo_isEmbedded_206 rfl (by rw [Int32.sub_eq_add_neg]; rfl) rfl ?_
        refine x_goto (tgt := 23) d_Mo_isEmbedded_209 (by decide) ?_
        exact Wq.fg (ihj _ (some (.int (nI (40 * a + i)))) (some (.int (nI (40 * b + j)))) (some (.int (bI g))) (some (.int x8)) (some (.int x9)) (by omega) (f0.put (by simp)) (fun i2 j2 h1 h2 h3 => by
          by_cases e : i2 = i ∧ j2 = j
          · rw [e.1, e.2, wI_s, hg]
          · rw [wI_j (by omega)]
            exact hE i2 j2 h1 h2 (by omega))) ⟨rfl, rfl, rfl, rfl, rfl, rfl, rfl, rfl, rfl, rfl, trivial⟩
      have la : ∀ (q k : Nat) (g : Bool), k ≤ n → n < k + q → (g = true → Fm P zs ws i j = true) → (g = false → Fm P zs ws i j = !alF (fun k => !Fm P zs ws i (ends P ws (j + 1) k)) n k) → Wq G M_Mo_isEmbedded (Em G (d + 4) 0 0 Q) 0 0 134 [some (rf G 391), some (.int (nI a)), some (.int (nI b)), some (.int (nI i)), some (.int (nI j)), some (.int (nI (40 * a + i))), some (.int (nI (40 * b + j))), some (.int (bI g)), some (.int (nI (40 * b + ends P ws (j + 1) k))), some (.int (nI k))] [] [] Γ τ := by
        intro q
        induction q with
        | zero => intro k g hk1 hq; omega
        | succ q ih =>
        intro k g hk1 hq h1 h0
        refine x_iload d_Mo_isEmbedded_134 rfl ?_
        first | refine x_aload_n d_Mo_isEmbedded_136 rfl rfl ?_ | refine x_aloadN_n d_Mo_isEmbedded_136 rfl rfl ?_ | refine x_aloadE_n d_Mo_isEmbedded_136 rfl rfl ?_ | refine x_aloadO_n d_Mo_isEmbedded_136 rfl rfl ?_
        first | refine x_aload_n d_Mo_isEmbedded_137 rfl rfl ?_ | refine x_aloadN_n d_Mo_isEmbedded_137 rfl rfl ?_ | refine x_aloadE_n d_Mo_isEmbedded_137 rfl rfl ?_ | refine x_aloadO_n d_Mo_isEmbedded_137 rfl rfl ?_
        refine x_getR d_Mo_isEmbedded_138 f_Mo_41 rfl (by first | exact hM.1 | exact hM.s rfl | assumption) (hM.r rfl) ?_
        refine x_iload d_Mo_isEmbedded_141 rfl ?_
        refine x_iald d_Mo_isEmbedded_143 (by first | exact hM.1 | exact hM.s rfl | assumption) (vp_in_nI (show 40 * b + j < 1920 by omega) (by decide)) ?_
        rw [nI_clamp (by omega), t5 j hj, ew]
        refine x_callV1 d_Mo_isEmbedded_144 k_Mo_partsOf l_Mo_124 v_Mo_partsOf rfl s_Mo_partsOf (by first | exact hM.1 | exact hM.s rfl | assumption) RoomE.m (Nat.le_of_ble_eq_true rfl) (c_Mo_partsOf hM hok2 ?_)
        rw [hpk2]
        refine x_icmp_ge (tgt := 192) d_Mo_isEmbedded_147 (by decide) (fun c147 => ?_) (fun c147 => ?_)
        · refine j192 g _ _ (by
            have e : n ≤ k := (nI_leI (by omega) (by omega)).mp c147
            cases g with
            | true => rw [h1 rfl]
            | false => rw [h0 rfl, alF_n e]; rfl)
        · refine x_iload d_Mo_isEmbedded_150 rfl ?_
          refine x_if_ne (tgt := 192) d_Mo_isEmbedded_152 (by decide) (fun c152 => ?_) (fun c152 => ?_)
          · refine j192 g _ _ (by rw [bI_n0 c152, h1 (bI_n0 c152)])
          · have hkn : k < n := Nat.not_le.mp fun z => c147 (nI_le z (by omega))
            have g2 := ends_lt hP (by omega) hj t7 (show k < nP P (ws.getD j (-1)) by rw [ew, hn]; exact hkn)
            obtain ⟨m2, hm2⟩ := full_sfx t7 g2.1
            have hgf : g = false := bI_0 c152
            first | refine x_aload_n d_Mo_isEmbedded_155 rfl rfl ?_ | refine x_aloadN_n d_Mo_isEmbedded_155 rfl rfl ?_ | refine x_aloadE_n d_Mo_isEmbedded_155 rfl rfl ?_ | refine x_aloadO_n d_Mo_isEmbedded_155 rfl rfl ?_
            refine x_getR d_Mo_isEmbedded_156 f_Mo_98 rfl (by first | exact hM.1 | exact hM.s rfl | assumption) (hM.r rfl) ?_
            refine x_bipush (v := 40) d_Mo_isEmbedded_159 (by decide) ?_
            refine x_iload_n d_Mo_isEmbedded_161 rfl rfl ?_
            refine x_imul d_Mo_isEmbedded_162 ?_
            rw [mul40]
            refine x_iload d_Mo_isEmbedded_163 rfl ?_
            refine x_iadd d_Mo_isEmbedded_165 ?_
            rw [nI_add]
            refine x_bipush (v := 40) d_Mo_isEmbedded_166 (by decide) ?_
            refine x_iload_n d_Mo_isEmbedded_168 rfl rfl ?_
            refine x_imul d_Mo_isEmbedded_169 ?_
            refine x_isub d_Mo_isEmbedded_170 ?_
            rw [mul40, nI_sub (by omega), show 40 * i + (40 * b + ends P ws (j + 1) k) - 40 * b = 40 * i + ends P ws (j + 1) k by omega]
            refine x_zald d_Mo_isEmbedded_171 (by first | exact hM.1 | exact hM.s rfl | assumption) (vp_in_nI (show 40 * i + ends P ws (j + 1) k < 1600 by omega) (by decide)) ?_
            rw [nI_clamp (by omega), hE i _ hi g2.1 (Or.inr ⟨rfl, by omega⟩)]
            refine x_istore d_Mo_isEmbedded_172 rfl ?_
            first | refine x_aload_n d_Mo_isEmbedded_174 rfl rfl ?_ | refine x_aloadN_n d_Mo_isEmbedded_174 rfl rfl ?_ | refine x_aloadE_n d_Mo_isEmbedded_174 rfl rfl ?_ | refine x_aloadO_n d_Mo_isEmbedded_174 rfl rfl ?_
            first | refine x_aload_n d_Mo_isEmbedded_175 rfl rfl ?_ | refine x_aloadN_n d_Mo_isEmbedded_175 rfl rfl ?_ | refine x_aloadE_n d_Mo_isEmbedded_175 rfl rfl ?_ | refine x_aloadO_n d_Mo_isEmbedded_175 rfl rfl ?_
            refine x_getR d_Mo_isEmbedded_176 f_Mo_41 rfl (by first | exact hM.1 | exact hM.s rfl | assumption) (hM.r rfl) ?_
            refine x_iload d_Mo_isEmbedded_179 rfl ?_
            refine x_callV2 d_Mo_isEmbedded_181 k_Mo_end l_Mo_164 v_Mo_end rfl s_Mo_end (by first | exact hM.1 | exact hM.s rfl | assumption) RoomE.m (Nat.le_of_ble_eq_true rfl) (c_Mo_end (i := ends P ws (j + 1) k) (m := m2) hM (hM.s rfl) t5 (by omega) (by decide) t9 hm2 ?_)
            refine x_istore d_Mo_isEmbedded_184 rfl ?_
            refine x_iinc (v := nI (k + 1)) d_Mo_isEmbedded_186 rfl (nI_1 k) rfl ?_
            refine x_goto (tgt := 134) d_Mo_isEmbedded_189 (by decide) ?_
            have e2 : ends P ws (j + 1) (k + 1) = ends P ws (j + 1) k + tk (nP P) 1 (ws.drop (ends P ws (j + 1) k)) := behind_tk hP (by omega) _
            exact Wq.fg (ih (k + 1) _ (by omega) (by omega) (fun z => by rw [h0 hgf, alF_s hkn, z]; rfl) (fun z => by rw [h0 hgf, alF_s hkn, z]; rfl)) ⟨rfl, rfl, rfl, rfl, rfl, rfl, rfl, rfl, by rw [e2, Nat.add_assoc], rfl, trivial⟩
      have j125 : ∀ (g : Bool) (x8 : Unit), g = cplB P zs ws (Fm P zs ws) i j → Wq G M_Mo_isEmbedded (Em G (d + 4) 0 0 Q) 0 0 125 [some (rf G 391), some (.int (nI a)), some (.int (nI b)), some (.int (nI i)), some (.int (nI j)), some (.int (nI (40 * a + i))), some (.int (nI (40 * b + j))), some (.int (bI g)), none, none] [] [] Γ τ := by
        intro g x8 hg
        subst hg
        refine x_iload d_Mo_isEmbedded_125 rfl ?_
        refine x_iconst (v := 1) d_Mo_isEmbedded_127 (by decide) ?_
        refine x_iadd d_Mo_isEmbedded_128 ?_
        rw [nI_1]
        refine x_istore d_Mo_isEmbedded_129 rfl ?_
        refine x_iconst (v := 0) d_Mo_isEmbedded_131 (by decide) ?_
        refine x_istore d_Mo_isEmbedded_132 rfl ?_
        exact Wq.fg (la (n + 1) 0 _ (by omega) (by omega) (fun z => by
          rw [hV]
          unfold RH
          rw [decide_eq_true hi, Bool.true_and, z, Bool.or_true]) (fun z => by
          rw [hV]
          unfold RH
          rw [decide_eq_true hi, Bool.true_and, z, Bool.or_false, any_n, ew, hn])) ⟨rfl, rfl, rfl, rfl, rfl, rfl, rfl, rfl, rfl, by rw [nI_0], trivial⟩
      have j74 : ∀ (y : Int32), y = bI (decide (s1 < 100 ∧ s2 < 100)) → Wq G M_Mo_isEmbedded (Em G (d + 4) 0 0 Q) 0 0 74 [some (rf G 391), some (.int (nI a)), some (.int (nI b)), some (.int (nI i)), some (.int (nI j)), some (.int (nI (40 * a + i))), some (.int (nI (40 * b + j))), none, none, none] [] [.int y] Γ τ := by
        intro y hy
        subst hy
        refine x_istore d_Mo_isEmbedded_74 rfl ?_
        refine x_iload d_Mo_isEmbedded_76 rfl ?_
        refine x_if_ne (tgt := 125) d_Mo_isEmbedded_78 (by decide) (fun c78 => ?_) (fun c78 => ?_)
        · refine j125 _ () ?_
          rw [cplB_n hs14 hs24 ez ew]
          first
          | (have e := bI_n0 c78
             rw [if_pos (of_decide_eq_true e), e])
          | (have e := of_decide_eq_false (bI_0 c78)
             rw [if_neg e, decide_eq_true e12, Bool.true_and, alF_all, ez])
          | (have e' := of_decide_eq_false (bI_0 c78)
             rw [if_neg e', bI_0 c78, decide_eq_false (fun z => c95 (by rw [z])), Bool.false_and])
        · first | refine x_aload_n d_Mo_isEmbedded_81 rfl rfl ?_ | refine x_aloadN_n d_Mo_isEmbedded_81 rfl rfl ?_ | refine x_aloadE_n d_Mo_isEmbedded_81 rfl rfl ?_ | refine x_aloadO_n d_Mo_isEmbedded_81 rfl rfl ?_
          refine x_getR d_Mo_isEmbedded_82 f_Mo_41 rfl (by first | exact hM.1 | exact hM.s rfl | assumption) (hM.r rfl) ?_
          refine x_iload d_Mo_isEmbedded_85 rfl ?_
          refine x_iald d_Mo_isEmbedded_87 (by first | exact hM.1 | exact hM.s rfl | assumption) (vp_in_nI (show 40 * a + i < 1920 by omega) (by decide)) ?_
          rw [nI_clamp (by omega), t4 i hi, ez]
          first | refine x_aload_n d_Mo_isEmbedded_88 rfl rfl ?_ | refine x_aloadN_n d_Mo_isEmbedded_88 rfl rfl ?_ | refine x_aloadE_n d_Mo_isEmbedded_88 rfl rfl ?_ | refine x_aloadO_n d_Mo_isEmbedded_88 rfl rfl ?_
          refine x_getR d_Mo_isEmbedded_89 f_Mo_41 rfl (by first | exact hM.1 | exact hM.s rfl | assumption) (hM.r rfl) ?_
          refine x_iload d_Mo_isEmbedded_92 rfl ?_
          refine x_iald d_Mo_isEmbedded_94 (by first | exact hM.1 | exact hM.s rfl | assumption) (vp_in_nI (show 40 * b + j < 1920 by omega) (by decide)) ?_
          rw [nI_clamp (by omega), t5 j hj, ew]
          refine x_icmp_ne (tgt := 125) d_Mo_isEmbedded_95 (by decide) (fun c95 => ?_) (fun c95 => ?_)
          · refine j125 _ () ?_
            rw [cplB_n hs14 hs24 ez ew]
            first
            | (have e := bI_n0 c78
               rw [if_pos (of_decide_eq_true e), e])
            | (have e := of_decide_eq_false (bI_0 c78)
               rw [if_neg e, decide_eq_true e12, Bool.true_and, alF_all, ez])
            | (have e' := of_decide_eq_false (bI_0 c78)
               rw [if_neg e', bI_0 c78, decide_eq_false (fun z => c95 (by rw [z])), Bool.false_and])
          · have e12 : s1 = s2 := nI_inj c95 (by omega) (by omega)
            have hnv : ¬ (s1 < 100 ∧ s2 < 100) := of_decide_eq_false (bI_0 c78)
            first | refine x_aload_n d_Mo_isEmbedded_98 rfl rfl ?_ | refine x_aloadN_n d_Mo_isEmbedded_98 rfl rfl ?_ | refine x_aloadE_n d_Mo_isEmbedded_98 rfl rfl ?_ | refine x_aloadO_n d_Mo_isEmbedded_98 rfl rfl ?_
            refine x_iload_n d_Mo_isEmbedded_99 rfl rfl ?_
            refine x_iload d_Mo_isEmbedded_100 rfl ?_
            refine x_iconst (v := 1) d_Mo_isEmbedded_102 (by decide) ?_
            refine x_iadd d_Mo_isEmbedded_103 ?_
            rw [nI_1]
            refine x_iload_n d_Mo_isEmbedded_104 rfl rfl ?_
            refine x_iload d_Mo_isEmbedded_105 rfl ?_
            refine x_iconst (v := 1) d_Mo_isEmbedded_107 (by decide) ?_
            refine x_iadd d_Mo_isEmbedded_108 ?_
            rw [nI_1]
            first | refine x_aload_n d_Mo_isEmbedded_109 rfl rfl ?_ | refine x_aloadN_n d_Mo_isEmbedded_109 rfl rfl ?_ | refine x_aloadE_n d_Mo_isEmbedded_109 rfl rfl ?_ | refine x_aloadO_n d_Mo_isEmbedded_109 rfl rfl ?_
            first | refine x_aload_n d_Mo_isEmbedded_110 rfl rfl ?_ | refine x_aloadN_n d_Mo_isEmbedded_110 rfl rfl ?_ | refine x_aloadE_n d_Mo_isEmbedded_110 rfl rfl ?_ | refine x_aloadO_n d_Mo_isEmbedded_110 rfl rfl ?_
            refine x_getR d_Mo_isEmbedded_111 f_Mo_41 rfl (by first | exact hM.1 | exact hM.s rfl | assumption) (hM.r rfl) ?_
            refine x_iload d_Mo_isEmbedded_114 rfl ?_
            refine x_iald d_Mo_isEmbedded_116 (by first | exact hM.1 | exact hM.s rfl | assumption) (vp_in_nI (show 40 * a + i < 1920 by omega) (by decide)) ?_
            rw [nI_clamp (by omega), t4 i hi, ez]
            refine x_callV1 d_Mo_isEmbedded_117 k_Mo_partsOf l_Mo_124 v_Mo_partsOf rfl s_Mo_partsOf (by first | exact hM.1 | exact hM.s rfl | assumption) RoomE.m (Nat.le_of_ble_eq_true rfl) (c_Mo_partsOf hM hok1 ?_)
            rw [hpk1]
            refine x_callV5 d_Mo_isEmbedded_120 k_Mo_areParts l_Mo_190 v_Mo_areParts rfl s_Mo_areParts (by first | exact hM.1 | exact hM.s rfl | assumption) RoomE.m (Nat.le_of_ble_eq_true rfl) (c_Mo_areParts (n := nP P (nI s1)) (i := i) (j := j) hM hP hT hi hj (by rw [ez]) (by rw [ew, e12]) (fun k hk => hE _ _ (ends_lt hP (by omega) hi t6 (by rw [ez]; exact hk)).1 (ends_lt hP (by omega) hj t7 (by rw [ew, ← e12]; exact hk)).1 (Or.inl (ends_lt hP (by omega) hi t6 (by rw [ez]; exact hk)).2)) ?_)
            refine x_istore d_Mo_isEmbedded_123 rfl ?_
            refine j125 _ () ?_
            rw [cplB_n hs14 hs24 ez ew]
            first
            | (have e := bI_n0 c78
               rw [if_pos (of_decide_eq_true e), e])
            | (have e := of_decide_eq_false (bI_0 c78)
               rw [if_neg e, decide_eq_true e12, Bool.true_and, alF_all, ez])
            | (have e' := of_decide_eq_false (bI_0 c78)
               rw [if_neg e', bI_0 c78, decide_eq_false (fun z => c95 (by rw [z])), Bool.false_and])
      refine x_iload d_Mo_isEmbedded_23 rfl ?_
      refine x_if_lt (tgt := 212) d_Mo_isEmbedded_25 (by decide) (fun c25 => ?_) (fun c25 => ?_)
      · exact absurd c25 (nI_pos (by omega))
      · refine x_bipush (v := 40) d_Mo_isEmbedded_28 (by decide) ?_
        refine x_iload_n d_Mo_isEmbedded_30 rfl rfl ?_
        refine x_imul d_Mo_isEmbedded_31 ?_
        rw [mul40]
        refine x_iload_n d_Mo_isEmbedded_32 rfl rfl ?_
        refine x_iadd d_Mo_isEmbedded_33 ?_
        rw [nI_add]
        refine x_istore d_Mo_isEmbedded_34 rfl ?_
        refine x_bipush (v := 40) d_Mo_isEmbedded_36 (by decide) ?_
        refine x_iload_n d_Mo_isEmbedded_38 rfl rfl ?_
        refine x_imul d_Mo_isEmbedded_39 ?_
        rw [mul40]
        refine x_iload d_Mo_isEmbedded_40 rfl ?_
        refine x_iadd d_Mo_isEmbedded_42 ?_
        rw [nI_add]
        refine x_istore d_Mo_isEmbedded_43 rfl ?_
        first | refine x_aload_n d_Mo_isEmbedded_45 rfl rfl ?_ | refine x_aloadN_n d_Mo_isEmbedded_45 rfl rfl ?_ | refine x_aloadE_n d_Mo_isEmbedded_45 rfl rfl ?_ | refine x_aloadO_n d_Mo_isEmbedded_45 rfl rfl ?_
        refine x_getR d_Mo_isEmbedded_46 f_Mo_41 rfl (by first | exact hM.1 | exact hM.s rfl | assumption) (hM.r rfl) ?_
        refine x_iload d_Mo_isEmbedded_49 rfl ?_
        refine x_iald d_Mo_isEmbedded_51 (by first | exact hM.1 | exact hM.s rfl | assumption) (vp_in_nI (show 40 * a + i < 1920 by omega) (by decide)) ?_
        rw [nI_clamp (by omega), t4 i hi, ez]
        refine x_bipush (v := 100) d_Mo_isEmbedded_52 (by decide) ?_
        refine x_icmp_ge (tgt := 73) d_Mo_isEmbedded_54 (by decide) (fun c54 => ?_) (fun c54 => ?_)
        · refine x_iconst (v := 0) d_Mo_isEmbedded_73 (by decide) ?_
          first
          | exact Wq.fg (j74 0 (by rw [decide_eq_false (fun z => nI_nlt ((nI_leI (by decide) (by omega)).mp (show nI 100 ≤ nI s1 from c54)) (by omega) (nI_lt z.1 (by decide)))]; rfl)) ⟨rfl, rfl, rfl, rfl, rfl, rfl, rfl, trivial⟩
          | exact Wq.fg (j74 0 (by rw [decide_eq_false (fun z => nI_nlt ((nI_leI (by decide) (by omega)).mp (show nI 100 ≤ nI s2 from c66)) (by omega) (nI_lt z.2 (by decide)))]; rfl)) ⟨rfl, rfl, rfl, rfl, rfl, rfl, rfl, trivial⟩
          | exact Wq.fg (j74 1 (by rw [decide_eq_true (show s1 < 100 ∧ s2 < 100 from ⟨Nat.not_le.mp fun z => c54 (show nI 100 ≤ nI s1 from nI_le z (by omega)), Nat.not_le.mp fun z => c66 (show nI 100 ≤ nI s2 from nI_le z (by omega))⟩)]; rfl)) ⟨rfl, rfl, rfl, rfl, rfl, rfl, rfl, trivial⟩
        · first | refine x_aload_n d_Mo_isEmbedded_57 rfl rfl ?_ | refine x_aloadN_n d_Mo_isEmbedded_57 rfl rfl ?_ | refine x_aloadE_n d_Mo_isEmbedded_57 rfl rfl ?_ | refine x_aloadO_n d_Mo_isEmbedded_57 rfl rfl ?_
          refine x_getR d_Mo_isEmbedded_58 f_Mo_41 rfl (by first | exact hM.1 | exact hM.s rfl | assumption) (hM.r rfl) ?_
          refine x_iload d_Mo_isEmbedded_61 rfl ?_
          refine x_iald d_Mo_isEmbedded_63 (by first | exact hM.1 | exact hM.s rfl | assumption) (vp_in_nI (show 40 * b + j < 1920 by omega) (by decide)) ?_
          rw [nI_clamp (by omega), t5 j hj, ew]
          refine x_bipush (v := 100) d_Mo_isEmbedded_64 (by decide) ?_
          refine x_icmp_ge (tgt := 73) d_Mo_isEmbedded_66 (by decide) (fun c66 => ?_) (fun c66 => ?_)
          · refine x_iconst (v := 0) d_Mo_isEmbedded_73 (by decide) ?_
            first
            | exact Wq.fg (j74 0 (by rw [decide_eq_false (fun z => nI_nlt ((nI_leI (by decide) (by omega)).mp (show nI 100 ≤ nI s1 from c54)) (by omega) (nI_lt z.1 (by decide)))]; rfl)) ⟨rfl, rfl, rfl, rfl, rfl, rfl, rfl, trivial⟩
            | exact Wq.fg (j74 0 (by rw [decide_eq_false (fun z => nI_nlt ((nI_leI (by decide) (by omega)).mp (show nI 100 ≤ nI s2 from c66)) (by omega) (nI_lt z.2 (by decide)))]; rfl)) ⟨rfl, rfl, rfl, rfl, rfl, rfl, rfl, trivial⟩
            | exact Wq.fg (j74 1 (by rw [decide_eq_true (show s1 < 100 ∧ s2 < 100 from ⟨Nat.not_le.mp fun z => c54 (show nI 100 ≤ nI s1 from nI_le z (by omega)), Nat.not_le.mp fun z => c66 (show nI 100 ≤ nI s2 from nI_le z (by omega))⟩)]; rfl)) ⟨rfl, rfl, rfl, rfl, rfl, rfl, rfl, trivial⟩
          · refine x_iconst (v := 1) d_Mo_isEmbedded_69 (by decide) ?_
            refine x_goto (tgt := 74) d_Mo_isEmbedded_70 (by decide) ?_
            first
            | exact Wq.fg (j74 0 (by rw [decide_eq_false (fun z => nI_nlt ((nI_leI (by decide) (by omega)).mp (show nI 100 ≤ nI s1 from c54)) (by omega) (nI_lt z.1 (by decide)))]; rfl)) ⟨rfl, rfl, rfl, rfl, rfl, rfl, rfl, trivial⟩
            | exact Wq.fg (j74 0 (by rw [decide_eq_false (fun z => nI_nlt ((nI_leI (by decide) (by omega)).mp (show nI 100 ≤ nI s2 from c66)) (by omega) (nI_lt z.2 (by decide)))]; rfl)) ⟨rfl, rfl, rfl, rfl, rfl, rfl, rfl, trivial⟩
            | exact Wq.fg (j74 1 (by rw [decide_eq_true (show s1 < 100 ∧ s2 < 100 from ⟨Nat.not_le.mp fun z => c54 (show nI 100 ≤ nI s1 from nI_le z (by omega)), Nat.not_le.mp fun z => c66 (show nI 100 ≤ nI s2 from nI_le z (by omega))⟩)]; rfl)) ⟨rfl, rfl, rfl, rfl, rfl, rfl, rfl, trivial⟩
  have li : ∀ (r : Nat) (τ : Mem) (x4 x5 x6 x7 x8 x9 : Option Value), r ≤ zs.length → FrI [421] σ τ → (∀ i2 j2, i2 < zs.length → j2 < ws.length → r ≤ i2 → τ.1 421 (40 * i2 + j2) = bI (Fm P zs ws i2 j2)) → Wq G M_Mo_isEmbedded (Em G (d + 4) 0 0 Q) 0 0 9 [some (rf G 391), some (.int (nI a)), some (.int (nI b)), some (.int (nI r - 1)), x4, x5, x6, x7, x8, x9] [] [] Γ τ := by
    intro r
    induction r with
    | zero =>
      intro τ x4 x5 x6 x7 x8 x9 hr f0 hE
      have hM := hM.fr f0
      rw [show nI 0 - 1 = (-1 : Int32) by decide]
      refine x_iload_n d_Mo_isEmbedded_9 rfl rfl ?_
      refine x_if_lt (tgt := 218) d_Mo_isEmbedded_10 (by decide) (fun c10 => ?_) (fun c10 => ?_)
      · first | refine x_aload_n d_Mo_isEmbedded_218 rfl rfl ?_ | refine x_aloadN_n d_Mo_isEmbedded_218 rfl rfl ?_ | refine x_aloadE_n d_Mo_isEmbedded_218 rfl rfl ?_ | refine x_aloadO_n d_Mo_isEmbedded_218 rfl rfl ?_
        refine x_getR d_Mo_isEmbedded_219 f_Mo_98 rfl (by first | exact hM.1 | exact hM.s rfl | assumption) (hM.r rfl) ?_
        refine x_iconst (v := 0) d_Mo_isEmbedded_222 (by decide) ?_
        rw [← nI_0]
        refine x_zald d_Mo_isEmbedded_223 (by first | exact hM.1 | exact hM.s rfl | assumption) (vp_in_nI (show 0 < 1600 by decide) (by decide)) ?_
        exact x_ireturn d_Mo_isEmbedded_224 rfl (by
          rw [nI_clamp (by decide), show (0 : Nat) = 40 * 0 + 0 from rfl, hE 0 0 (full_ne t6) (full_ne t7) (Nat.le_refl _)]
          cases Fm P zs ws 0 0 <;> rfl) (by
          have e := hE 0 0 (full_ne t6) (full_ne t7) (Nat.le_refl _)
          rw [nI_clamp (by decide), show τ.1 421 0 = _ from e, ← embB_eq hP (by omega) (by omega) t6 t7 hv0]
          exact hQ τ f0)
      · exact absurd (by decide) c10
    | succ i ih =>
      intro τ x4 x5 x6 x7 x8 x9 hr f0 hE
      have hM := hM.fr f0
      rw [nI_pred]
      refine x_iload_n d_Mo_isEmbedded_9 rfl rfl ?_
      refine x_if_lt (tgt := 218) d_Mo_isEmbedded_10 (by decide) (fun c10 => ?_) (fun c10 => ?_)
      · exact absurd c10 (nI_pos (by omega))
      · first | refine x_aload_n d_Mo_isEmbedded_13 rfl rfl ?_ | refine x_aloadN_n d_Mo_isEmbedded_13 rfl rfl ?_ | refine x_aloadE_n d_Mo_isEmbedded_13 rfl rfl ?_ | refine x_aloadO_n d_Mo_isEmbedded_13 rfl rfl ?_
        refine x_getR d_Mo_isEmbedded_14 f_Mo_44 rfl (by first | exact hM.1 | exact hM.s rfl | assumption) (hM.r rfl) ?_
        refine x_iload_n d_Mo_isEmbedded_17 rfl rfl ?_
        refine x_iald d_Mo_isEmbedded_18 (by first | exact hM.1 | exact hM.s rfl | assumption) (vp_in_nI t2 (by decide)) ?_
        rw [nI_clamp (by omega), f0.2 403 (by simp), hsb]
        refine x_iconst (v := 1) d_Mo_isEmbedded_19 (by decide) ?_
        refine x_isub d_Mo_isEmbedded_20 ?_
        refine x_istore d_Mo_isEmbedded_21 rfl ?_
        refine Wq.fg (lj i ws.length τ x5 x6 x7 x8 x9 (by omega) (Nat.le_refl _) f0 (fun i2 j2 h1 h2 h3 => hE i2 j2 h1 h2 (by omega)) (fun τ x4 x5 x6 x7 x8 x9 f0 hE => ?_)) ⟨rfl, rfl, rfl, rfl, rfl, lsub_rf⟩
        refine x_iinc (v := nI i - 1) d_Mo_isEmbedded_212 rfl (by rw [Int32.sub_eq_add_neg]; rfl) rfl ?_
        refine x_goto (tgt := 9) d_Mo_isEmbedded_215 (by decide) ?_
        exact Wq.fg (ih τ x4 x5 x6 x7 x8 x9 (by omega) f0 hE) ⟨rfl, rfl, rfl, rfl, lsub_rf⟩
  refine Ct.of (lv := [some (rf G 391), some (.int (nI a)), some (.int (nI b)), none, none, none, none, none, none, none]) (ll := []) rfl rfl (EN.cat (n := 7) ⟨rfl, rfl, rfl, trivial⟩ (Nat.le_of_ble_eq_true rfl)) ?_
  first | refine x_aload_n d_Mo_isEmbedded_0 rfl rfl ?_ | refine x_aloadN_n d_Mo_isEmbedded_0 rfl rfl ?_ | refine x_aloadE_n d_Mo_isEmbedded_0 rfl rfl ?_ | refine x_aloadO_n d_Mo_isEmbedded_0 rfl rfl ?_
  refine x_getR d_Mo_isEmbedded_1 f_Mo_44 rfl (by first | exact hM.1 | exact hM.s rfl | assumption) (hM.r rfl) ?_
  refine x_iload_n d_Mo_isEmbedded_4 rfl rfl ?_
  refine x_iald d_Mo_isEmbedded_5 (by first | exact hM.1 | exact hM.s rfl | assumption) (vp_in_nI t1 (by decide)) ?_
  rw [nI_clamp (by omega), hsa]
  refine x_iconst (v := 1) d_Mo_isEmbedded_6 (by decide) ?_
  refine x_isub d_Mo_isEmbedded_7 ?_
  refine x_istore_n d_Mo_isEmbedded_8 rfl rfl ?_
  exact Wq.fg (li zs.length σ none none none none none none (Nat.le_refl _) FrI.rf (fun i2 j2 h1 h2 h3 => by omega)) ⟨rfl, rfl, rfl, rfl, trivial⟩
