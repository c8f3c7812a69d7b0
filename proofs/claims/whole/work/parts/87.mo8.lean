/-! SuperDriverModel: add, load, lowestOpen; the tree's arrays -/
/-- a node was added -/
def addF (σ σ' : Mem) (N : Nat) (up : Int32) (l : List Int32) : Prop :=
  FrI [391, 400, 401, 402, 403, 404, 406] σ σ' ∧ (∀ j, j ≠ 12 → j ≠ 13 → σ'.1 391 j = σ.1 391 j) ∧ σ'.1 391 12 = 0 ∧ σ'.1 391 13 = nI (N + 1) ∧
  (∀ j, σ'.1 400 j = if j = N then 8 else σ.1 400 j) ∧ (∀ j, σ'.1 401 j = if j = N then up else σ.1 401 j) ∧ (∀ j, σ'.1 403 j = if j = N then nI l.length else σ.1 403 j) ∧ (∀ j, σ'.1 404 j = if j = N then -1 else σ.1 404 j) ∧ (∀ j, σ'.1 406 j = if j = N then 0 else σ.1 406 j) ∧ seg σ' 402 (40 * N) l ∧ ∀ j, j < 40 * N → σ'.1 402 j = σ.1 402 j
set_option maxRecDepth 10000 in
set_option maxHeartbeats 1000000 in
theorem c_Mo_add {G : Ctx} {d : Nat} {Γ : List Sh} {σ : Mem} {Q : Option Value → List Sh → Mem → Prop} {up : Int32} {c q N Nc : Nat} {l : List Int32} {g : Bool} (hM : MoS Γ σ) (hs : Γ[c]? = some (1, Nc)) (hc : c < 391 ∨ 400 ≤ c ∧ (c = 402 ∨ 409 < c) ∨ c = 397) (hNc : q + l.length ≤ Nc) (hNc2 : Nc ≤ 30000) (hseg : seg σ c q l) (hg : σ.1 391 12 = bI g) (hN : σ.1 391 13 = nI N) (hN48a : N ≤ 48) (hsp : c ≠ 402 ∨ q + l.length ≤ 40 * N) (hQ1 : (g = true ∨ N = 48 ∨ 40 < l.length) → Q none Γ (wI σ 391 12 1)) (hQ2 : g = false → N < 48 → l.length ≤ 40 → ∀ σ', addF σ σ' N up l → Q none Γ σ') : Ct G M_Mo_add d 0 0 [rf G 391, .int up, rf G c, .int (nI q), .int (nI (q + l.length))] Γ σ Q := by
  refine Ct.of (lv := [some (rf G 391), some (.int up), some (rf G c), some (.int (nI q)), some (.int (nI (q + l.length))), none]) (ll := []) rfl rfl (EN.cat (n := 1) ⟨rfl, rfl, rfl, rfl, rfl, trivial⟩ (Nat.le_of_ble_eq_true rfl)) ?_
  first | refine x_aload_n d_Mo_add_0 rfl rfl ?_ | refine x_aloadN_n d_Mo_add_0 rfl rfl ?_ | refine x_aloadE_n d_Mo_add_0 rfl rfl ?_ | refine x_aloadO_n d_Mo_add_0 rfl rfl ?_
  first | refine x_aload_n d_Mo_add_1 rfl rfl ?_ | refine x_aloadN_n d_Mo_add_1 rfl rfl ?_ | refine x_aloadE_n d_Mo_add_1 rfl rfl ?_ | refine x_aloadO_n d_Mo_add_1 rfl rfl ?_
  refine x_getI d_Mo_add_2 f_Mo_177 rfl (by first | exact hM.1 | exact hM.s rfl | assumption) ?_
  rw [hg]
  refine x_if_ne (tgt := 26) d_Mo_add_5 (by decide) (fun c5 => ?_) (fun c5 => ?_)
  · refine x_iconst (v := 1) d_Mo_add_26 (by decide) ?_
    refine x_goto (tgt := 31) d_Mo_add_27 (by decide) ?_
    refine x_putI d_Mo_add_31 (w_Mo_m_177 _) rfl (by first | rfl | decide) (by first | rfl | decide) (by first | exact hM.1 | exact hM.s rfl | assumption) ?_
    first | refine x_aload_n d_Mo_add_34 rfl rfl ?_ | refine x_aloadN_n d_Mo_add_34 rfl rfl ?_ | refine x_aloadE_n d_Mo_add_34 rfl rfl ?_ | refine x_aloadO_n d_Mo_add_34 rfl rfl ?_
    refine x_getI d_Mo_add_35 f_Mo_177 rfl (by first | exact hM.1 | exact hM.s rfl | assumption) ?_
    rw [wI_s]
    refine x_if_eq (tgt := 42) d_Mo_add_38 (by decide) (fun c38 => ?_) (fun c38 => ?_)
    · first
      | exact absurd c38 (by decide)
      | have hg0 : g = false := bI_0 c5
        have hN48 : N < 48 := by
          have : N ≠ 48 := fun z => c14 (by rw [z]; rfl)
          omega
        have hl40 : l.length ≤ 40 := (nI_leI (by omega) (by decide)).mp (show nI l.length ≤ nI 40 from c23)
        have lp : ∀ (k i : Nat) (τ : Mem), i ≤ l.length → l.length < i + k → FrI [402] (wI (wI (wI (wI (wI (wI σ 391 12 0) 400 N 8) 401 N up) 404 N (-1)) 406 N 0) 403 N (nI l.length)) τ → seg τ c q l → (∀ j, j < i → τ.1 402 (40 * N + j) = l.getD j (-1)) → (∀ j, j < 40 * N ∨ 40 * N + l.length ≤ j → τ.1 402 j = (wI (wI (wI (wI (wI (wI σ 391 12 0) 400 N 8) 401 N up) 404 N (-1)) 406 N 0) 403 N (nI l.length)).1 402 j) → Wq G M_Mo_add (Em G d 0 0 Q) 0 0 99 [some (rf G 391), some (.int up), some (rf G c), some (.int (nI q)), some (.int (nI (q + l.length))), some (.int (nI (q + i)))] [] [] Γ τ := by
          intro k
          induction k with
          | zero => intro i τ hi hk; omega
          | succ k ih =>
          intro i τ hi hk f0 hsrc h3 h4
          have hM : MoS Γ τ := (((((((hM.w (a := 391) (j := 12) (v := 0)).w (a := 400) (j := N) (v := 8)).w (a := 401) (j := N) (v := up)).w (a := 404) (j := N) (v := -1)).w (a := 406) (j := N) (v := 0)).w (a := 403) (j := N) (v := nI l.length))).fr f0
          refine x_iload d_Mo_add_99 rfl ?_
          refine x_iload d_Mo_add_101 rfl ?_
          refine x_icmp_ge (tgt := 133) d_Mo_add_103 (by decide) (fun c103 => ?_) (fun c103 => ?_)
          · have e : i = l.length := by have := (nI_leI (by omega) (by omega)).mp c103; omega
            subst e
            first | refine x_aload_n d_Mo_add_133 rfl rfl ?_ | refine x_aloadN_n d_Mo_add_133 rfl rfl ?_ | refine x_aloadE_n d_Mo_add_133 rfl rfl ?_ | refine x_aloadO_n d_Mo_add_133 rfl rfl ?_
            refine x_dup d_Mo_add_134 rfl ?_
            refine x_getI d_Mo_add_135 f_Mo_180 rfl (by first | exact hM.1 | exact hM.s rfl | assumption) ?_
            rw [f0.2 391 (by simp), wI_o (by decide), wI_o (by decide), wI_o (by decide), wI_o (by decide), wI_o (by decide), wI_j (by decide), hN]
            refine x_iconst (v := 1) d_Mo_add_138 (by decide) ?_
            refine x_iadd d_Mo_add_139 ?_
            first | rw [nI_add] | rw [nI_1] | skip
            first | rw [nI_add] | rw [nI_1] | skip
            refine x_putI d_Mo_add_140 (w_Mo_m_180 _) rfl (by first | rfl | decide) (by first | rfl | decide) (by first | exact hM.1 | exact hM.s rfl | assumption) ?_
            exact x_return d_Mo_add_143 rfl (hQ2 hg0 hN48 hl40 _ (by
              have g4 : ∀ a, a ≠ 402 → τ.1 a = (wI (wI (wI (wI (wI (wI σ 391 12 0) 400 N 8) 401 N up) 404 N (-1)) 406 N 0) 403 N (nI l.length)).1 a := fun a ha => f0.2 a (by simp; exact ha)
              refine ⟨⟨f0.1, fun a ha => ?_⟩, fun j h1 h2 => ?_, ?_, ?_, fun j => ?_, fun j => ?_, fun j => ?_, fun j => ?_, fun j => ?_, fun i hi => ?_, fun j hj => ?_⟩
              · simp only [List.mem_cons, List.not_mem_nil, or_false, not_or] at ha
                rw [wI_o ha.1, g4 a ha.2.2.2.1, wI_o ha.2.2.2.2.1, wI_o ha.2.2.2.2.2.2, wI_o ha.2.2.2.2.2.1, wI_o ha.2.2.1, wI_o ha.2.1, wI_o ha.1]
              · rw [wI_j h2, g4 _ (by decide), wI_o (by decide), wI_o (by decide), wI_o (by decide), wI_o (by decide), wI_o (by decide), wI_j h1]
              · rw [wI_j (by decide), g4 _ (by decide), wI_o (by decide), wI_o (by decide), wI_o (by decide), wI_o (by decide), wI_o (by decide), wI_s]
              · rw [wI_s]
              · rw [wI_o (by decide), g4 _ (by decide), wI_o (by decide), wI_o (by decide), wI_o (by decide), wI_o (by decide)]
                by_cases e : j = N
                · rw [if_pos e, e, wI_s]
                · rw [if_neg e, wI_j e, wI_o (by decide)]
              · rw [wI_o (by decide), g4 _ (by decide), wI_o (by decide), wI_o (by decide), wI_o (by decide)]
                by_cases e : j = N
                · rw [if_pos e, e, wI_s]
                · rw [if_neg e, wI_j e, wI_o (by decide), wI_o (by decide)]
              · rw [wI_o (by decide), g4 _ (by decide)]
                by_cases e : j = N
                · rw [if_pos e, e, wI_s]
                · rw [if_neg e, wI_j e, wI_o (by decide), wI_o (by decide), wI_o (by decide), wI_o (by decide), wI_o (by decide)]
              · rw [wI_o (by decide), g4 _ (by decide), wI_o (by decide), wI_o (by decide)]
                by_cases e : j = N
                · rw [if_pos e, e, wI_s]
                · rw [if_neg e, wI_j e, wI_o (by decide), wI_o (by decide), wI_o (by decide)]
              · rw [wI_o (by decide), g4 _ (by decide), wI_o (by decide)]
                by_cases e : j = N
                · rw [if_pos e, e, wI_s]
                · rw [if_neg e, wI_j e, wI_o (by decide), wI_o (by decide), wI_o (by decide), wI_o (by decide)]
              · rw [wI_o (by decide)]; exact h3 i hi
              · rw [wI_o (by decide), h4 j (Or.inl hj), wI_o (by decide), wI_o (by decide), wI_o (by decide), wI_o (by decide), wI_o (by decide), wI_o (by decide)]))
          · have hil : i < l.length := by
              have z : ¬ q + l.length ≤ q + i := fun z => c103 (nI_le z (by omega))
              omega
            first | refine x_aload_n d_Mo_add_106 rfl rfl ?_ | refine x_aloadN_n d_Mo_add_106 rfl rfl ?_ | refine x_aloadE_n d_Mo_add_106 rfl rfl ?_ | refine x_aloadO_n d_Mo_add_106 rfl rfl ?_
            refine x_getR d_Mo_add_107 f_Mo_41 rfl (by first | exact hM.1 | exact hM.s rfl | assumption) (hM.r rfl) ?_
            refine x_bipush (v := 40) d_Mo_add_110 (by decide) ?_
            first | refine x_aload_n d_Mo_add_112 rfl rfl ?_ | refine x_aloadN_n d_Mo_add_112 rfl rfl ?_ | refine x_aloadE_n d_Mo_add_112 rfl rfl ?_ | refine x_aloadO_n d_Mo_add_112 rfl rfl ?_
            refine x_getI d_Mo_add_113 f_Mo_180 rfl (by first | exact hM.1 | exact hM.s rfl | assumption) ?_
            rw [f0.2 391 (by simp), wI_o (by decide), wI_o (by decide), wI_o (by decide), wI_o (by decide), wI_o (by decide), wI_j (by decide), hN]
            refine x_imul d_Mo_add_116 ?_
            first | rw [mul40] | rw [mul24] | rw [mul100] | rw [mul7] | skip
            refine x_iload d_Mo_add_117 rfl ?_
            refine x_iadd d_Mo_add_119 ?_
            first | rw [nI_add] | rw [nI_1] | skip
            refine x_iload_n d_Mo_add_120 rfl rfl ?_
            refine x_isub d_Mo_add_121 ?_
            rw [nI_sub (by omega), show 40 * N + (q + i) - q = 40 * N + i by omega]
            first | refine x_aload_n d_Mo_add_122 rfl rfl ?_ | refine x_aloadN_n d_Mo_add_122 rfl rfl ?_ | refine x_aloadE_n d_Mo_add_122 rfl rfl ?_ | refine x_aloadO_n d_Mo_add_122 rfl rfl ?_
            refine x_iload d_Mo_add_123 rfl ?_
            refine x_iald d_Mo_add_125 (by exact hs) (vp_in_nI (show q + i < Nc by omega) (by omega)) ?_
            rw [nI_clamp (by omega), hsrc i hil]
            refine x_iast d_Mo_add_126 (by exact hM.s rfl) (vp_in_nI (show 40 * N + i < 1920 by omega) (by decide)) ?_
            rw [nI_clamp (by omega)]
            refine x_iinc (v := nI (q + (i + 1))) d_Mo_add_127 rfl (nI_1 (q + i)) rfl ?_
            refine x_goto (tgt := 99) d_Mo_add_130 (by decide) ?_
            exact Wq.fg (ih (i + 1) _ (by omega) (by omega) (f0.put (by simp)) (fun j hj => by
              rcases hsp with z | z
              · rw [wI_o z]; exact hsrc j hj
              · rw [show wI τ 402 (40 * N + i) _ = wI τ 402 (40 * N + i) _ from rfl]
                by_cases e : c = 402
                · rw [e, wI_j (by omega), ← e]; exact hsrc j hj
                · rw [wI_o e]; exact hsrc j hj) (fun j hj => by
              by_cases e : j = i
              · rw [e, wI_s]
              · rw [wI_j (by omega)]; exact h3 j (by omega)) (fun j hj => by
              rw [wI_j (by omega)]; exact h4 j (by omega))) ⟨rfl, rfl, rfl, rfl, rfl, rfl, trivial⟩
        first | refine x_aload_n d_Mo_add_42 rfl rfl ?_ | refine x_aloadN_n d_Mo_add_42 rfl rfl ?_ | refine x_aloadE_n d_Mo_add_42 rfl rfl ?_ | refine x_aloadO_n d_Mo_add_42 rfl rfl ?_
        refine x_getR d_Mo_add_43 f_Mo_35 rfl (by first | exact hM.1 | exact hM.s rfl | assumption) (hM.r rfl) ?_
        first | refine x_aload_n d_Mo_add_46 rfl rfl ?_ | refine x_aloadN_n d_Mo_add_46 rfl rfl ?_ | refine x_aloadE_n d_Mo_add_46 rfl rfl ?_ | refine x_aloadO_n d_Mo_add_46 rfl rfl ?_
        refine x_getI d_Mo_add_47 f_Mo_180 rfl (by first | exact hM.1 | exact hM.s rfl | assumption) ?_
        rw [wI_j (by decide), hN]
        refine x_bipush (v := 8) d_Mo_add_50 (by decide) ?_
        refine x_iast d_Mo_add_52 (by first | exact hM.1 | exact hM.s rfl | assumption) (vp_in_nI hN48 (by decide)) ?_
        rw [nI_clamp (by omega)]
        first | refine x_aload_n d_Mo_add_53 rfl rfl ?_ | refine x_aloadN_n d_Mo_add_53 rfl rfl ?_ | refine x_aloadE_n d_Mo_add_53 rfl rfl ?_ | refine x_aloadO_n d_Mo_add_53 rfl rfl ?_
        refine x_getR d_Mo_add_54 f_Mo_38 rfl (by first | exact hM.1 | exact hM.s rfl | assumption) (hM.r rfl) ?_
        first | refine x_aload_n d_Mo_add_57 rfl rfl ?_ | refine x_aloadN_n d_Mo_add_57 rfl rfl ?_ | refine x_aloadE_n d_Mo_add_57 rfl rfl ?_ | refine x_aloadO_n d_Mo_add_57 rfl rfl ?_
        refine x_getI d_Mo_add_58 f_Mo_180 rfl (by first | exact hM.1 | exact hM.s rfl | assumption) ?_
        rw [wI_o (by decide), wI_j (by decide), hN]
        refine x_iload_n d_Mo_add_61 rfl rfl ?_
        refine x_iast d_Mo_add_62 (by first | exact hM.1 | exact hM.s rfl | assumption) (vp_in_nI hN48 (by decide)) ?_
        rw [nI_clamp (by omega)]
        first | refine x_aload_n d_Mo_add_63 rfl rfl ?_ | refine x_aloadN_n d_Mo_add_63 rfl rfl ?_ | refine x_aloadE_n d_Mo_add_63 rfl rfl ?_ | refine x_aloadO_n d_Mo_add_63 rfl rfl ?_
        refine x_getR d_Mo_add_64 f_Mo_47 rfl (by first | exact hM.1 | exact hM.s rfl | assumption) (hM.r rfl) ?_
        first | refine x_aload_n d_Mo_add_67 rfl rfl ?_ | refine x_aloadN_n d_Mo_add_67 rfl rfl ?_ | refine x_aloadE_n d_Mo_add_67 rfl rfl ?_ | refine x_aloadO_n d_Mo_add_67 rfl rfl ?_
        refine x_getI d_Mo_add_68 f_Mo_180 rfl (by first | exact hM.1 | exact hM.s rfl | assumption) ?_
        rw [wI_o (by decide), wI_o (by decide), wI_j (by decide), hN]
        refine x_iconst (v := -1) d_Mo_add_71 (by decide) ?_
        refine x_iast d_Mo_add_72 (by first | exact hM.1 | exact hM.s rfl | assumption) (vp_in_nI hN48 (by decide)) ?_
        rw [nI_clamp (by omega)]
        first | refine x_aload_n d_Mo_add_73 rfl rfl ?_ | refine x_aloadN_n d_Mo_add_73 rfl rfl ?_ | refine x_aloadE_n d_Mo_add_73 rfl rfl ?_ | refine x_aloadO_n d_Mo_add_73 rfl rfl ?_
        refine x_getR d_Mo_add_74 f_Mo_53 rfl (by first | exact hM.1 | exact hM.s rfl | assumption) (hM.r rfl) ?_
        first | refine x_aload_n d_Mo_add_77 rfl rfl ?_ | refine x_aloadN_n d_Mo_add_77 rfl rfl ?_ | refine x_aloadE_n d_Mo_add_77 rfl rfl ?_ | refine x_aloadO_n d_Mo_add_77 rfl rfl ?_
        refine x_getI d_Mo_add_78 f_Mo_180 rfl (by first | exact hM.1 | exact hM.s rfl | assumption) ?_
        rw [wI_o (by decide), wI_o (by decide), wI_o (by decide), wI_j (by decide), hN]
        refine x_iconst (v := 0) d_Mo_add_81 (by decide) ?_
        refine x_iast d_Mo_add_82 (by first | exact hM.1 | exact hM.s rfl | assumption) (vp_in_nI hN48 (by decide)) ?_
        rw [nI_clamp (by omega)]
        first | refine x_aload_n d_Mo_add_83 rfl rfl ?_ | refine x_aloadN_n d_Mo_add_83 rfl rfl ?_ | refine x_aloadE_n d_Mo_add_83 rfl rfl ?_ | refine x_aloadO_n d_Mo_add_83 rfl rfl ?_
        refine x_getR d_Mo_add_84 f_Mo_44 rfl (by first | exact hM.1 | exact hM.s rfl | assumption) (hM.r rfl) ?_
        first | refine x_aload_n d_Mo_add_87 rfl rfl ?_ | refine x_aloadN_n d_Mo_add_87 rfl rfl ?_ | refine x_aloadE_n d_Mo_add_87 rfl rfl ?_ | refine x_aloadO_n d_Mo_add_87 rfl rfl ?_
        refine x_getI d_Mo_add_88 f_Mo_180 rfl (by first | exact hM.1 | exact hM.s rfl | assumption) ?_
        rw [wI_o (by decide), wI_o (by decide), wI_o (by decide), wI_o (by decide), wI_j (by decide), hN]
        refine x_iload d_Mo_add_91 rfl ?_
        refine x_iload_n d_Mo_add_93 rfl rfl ?_
        refine x_isub d_Mo_add_94 ?_
        rw [nI_sub (by omega), Nat.add_sub_cancel_left]
        refine x_iast d_Mo_add_95 (by first | exact hM.1 | exact hM.s rfl | assumption) (vp_in_nI hN48 (by decide)) ?_
        rw [nI_clamp (by omega)]
        refine x_iload_n d_Mo_add_96 rfl rfl ?_
        refine x_istore d_Mo_add_97 rfl ?_
        exact Wq.fg (lp (l.length + 1) 0 _ (by omega) (by omega) FrI.rf (fun j hj => by
          rw [wI_o (by omega), wI_o (by omega), wI_o (by omega), wI_o (by omega), wI_o (by omega), wI_o (by omega)]; exact hseg j hj) (fun j hj => absurd hj (Nat.not_lt_zero _)) (fun _ _ => rfl)) ⟨rfl, rfl, rfl, rfl, rfl, rfl, trivial⟩
    · first
      | exact absurd rfl c38
      | exact x_return d_Mo_add_41 rfl (hQ1 (by
          first
          | exact Or.inl (bI_n0 c5)
          | exact Or.inr (Or.inl (nI_inj (show nI N = nI 48 from c14) (by omega) (by decide)))
          | exact Or.inr (Or.inr (Nat.not_le.mp fun z => c23 (show nI l.length ≤ nI 40 from nI_le z (by decide))))
          | exact absurd rfl c38))
  · first | refine x_aload_n d_Mo_add_8 rfl rfl ?_ | refine x_aloadN_n d_Mo_add_8 rfl rfl ?_ | refine x_aloadE_n d_Mo_add_8 rfl rfl ?_ | refine x_aloadO_n d_Mo_add_8 rfl rfl ?_
    refine x_getI d_Mo_add_9 f_Mo_180 rfl (by first | exact hM.1 | exact hM.s rfl | assumption) ?_
    rw [hN]
    refine x_bipush (v := 48) d_Mo_add_12 (by decide) ?_
    skip
    refine x_icmp_eq (tgt := 26) d_Mo_add_14 (by decide) (fun c14 => ?_) (fun c14 => ?_)
    · refine x_iconst (v := 1) d_Mo_add_26 (by decide) ?_
      refine x_goto (tgt := 31) d_Mo_add_27 (by decide) ?_
      refine x_putI d_Mo_add_31 (w_Mo_m_177 _) rfl (by first | rfl | decide) (by first | rfl | decide) (by first | exact hM.1 | exact hM.s rfl | assumption) ?_
      first | refine x_aload_n d_Mo_add_34 rfl rfl ?_ | refine x_aloadN_n d_Mo_add_34 rfl rfl ?_ | refine x_aloadE_n d_Mo_add_34 rfl rfl ?_ | refine x_aloadO_n d_Mo_add_34 rfl rfl ?_
      refine x_getI d_Mo_add_35 f_Mo_177 rfl (by first | exact hM.1 | exact hM.s rfl | assumption) ?_
      rw [wI_s]
      refine x_if_eq (tgt := 42) d_Mo_add_38 (by decide) (fun c38 => ?_) (fun c38 => ?_)
      · first
        | exact absurd c38 (by decide)
        | have hg0 : g = false := bI_0 c5
          have hN48 : N < 48 := by
            have : N ≠ 48 := fun z => c14 (by rw [z]; rfl)
            omega
          have hl40 : l.length ≤ 40 := (nI_leI (by omega) (by decide)).mp (show nI l.length ≤ nI 40 from c23)
          have lp : ∀ (k i : Nat) (τ : Mem), i ≤ l.length → l.length < i + k → FrI [402] (wI (wI (wI (wI (wI (wI σ 391 12 0) 400 N 8) 401 N up) 404 N (-1)) 406 N 0) 403 N (nI l.length)) τ → seg τ c q l → (∀ j, j < i → τ.1 402 (40 * N + j) = l.getD j (-1)) → (∀ j, j < 40 * N ∨ 40 * N + l.length ≤ j → τ.1 402 j = (wI (wI (wI (wI (wI (wI σ 391 12 0) 400 N 8) 401 N up) 404 N (-1)) 406 N 0) 403 N (nI l.length)).1 402 j) → Wq G M_Mo_add (Em G d 0 0 Q) 0 0 99 [some (rf G 391), some (.int up), some (rf G c), some (.int (nI q)), some (.int (nI (q + l.length))), some (.int (nI (q + i)))] [] [] Γ τ := by
            intro k
            induction k with
            | zero => intro i τ hi hk; omega
            | succ k ih =>
            intro i τ hi hk f0 hsrc h3 h4
            have hM : MoS Γ τ := (((((((hM.w (a := 391) (j := 12) (v := 0)).w (a := 400) (j := N) (v := 8)).w (a := 401) (j := N) (v := up)).w (a := 404) (j := N) (v := -1)).w (a := 406) (j := N) (v := 0)).w (a := 403) (j := N) (v := nI l.length))).fr f0
            refine x_iload d_Mo_add_99 rfl ?_
            refine x_iload d_Mo_add_101 rfl ?_
            refine x_icmp_ge (tgt := 133) d_Mo_add_103 (by decide) (fun c103 => ?_) (fun c103 => ?_)
            · have e : i = l.length := by have := (nI_leI (by omega) (by omega)).mp c103; omega
              subst e
              first | refine x_aload_n d_Mo_add_133 rfl rfl ?_ | refine x_aloadN_n d_Mo_add_133 rfl rfl ?_ | refine x_aloadE_n d_Mo_add_133 rfl rfl ?_ | refine x_aloadO_n d_Mo_add_133 rfl rfl ?_
              refine x_dup d_Mo_add_134 rfl ?_
              refine x_getI d_Mo_add_135 f_Mo_180 rfl (by first | exact hM.1 | exact hM.s rfl | assumption) ?_
              rw [f0.2 391 (by simp), wI_o (by decide), wI_o (by decide), wI_o (by decide), wI_o (by decide), wI_o (by decide), wI_j (by decide), hN]
              refine x_iconst (v := 1) d_Mo_add_138 (by decide) ?_
              refine x_iadd d_Mo_add_139 ?_
              first | rw [nI_add] | rw [nI_1] | skip
              first | rw [nI_add] | rw [nI_1] | skip
              refine x_putI d_Mo_add_140 (w_Mo_m_180 _) rfl (by first | rfl | decide) (by first | rfl | decide) (by first | exact hM.1 | exact hM.s rfl | assumption) ?_
              exact x_return d_Mo_add_143 rfl (hQ2 hg0 hN48 hl40 _ (by
                have g4 : ∀ a, a ≠ 402 → τ.1 a = (wI (wI (wI (wI (wI (wI σ 391 12 0) 400 N 8) 401 N up) 404 N (-1)) 406 N 0) 403 N (nI l.length)).1 a := fun a ha => f0.2 a (by simp; exact ha)
                refine ⟨⟨f0.1, fun a ha => ?_⟩, fun j h1 h2 => ?_, ?_, ?_, fun j => ?_, fun j => ?_, fun j => ?_, fun j => ?_, fun j => ?_, fun i hi => ?_, fun j hj => ?_⟩
                · simp only [List.mem_cons, List.not_mem_nil, or_false, not_or] at ha
                  rw [wI_o ha.1, g4 a ha.2.2.2.1, wI_o ha.2.2.2.2.1, wI_o ha.2.2.2.2.2.2, wI_o ha.2.2.2.2.2.1, wI_o ha.2.2.1, wI_o ha.2.1, wI_o ha.1]
                · rw [wI_j h2, g4 _ (by decide), wI_o (by decide), wI_o (by decide), wI_o (by decide), wI_o (by decide), wI_o (by decide), wI_j h1]
                · rw [wI_j (by decide), g4 _ (by decide), wI_o (by decide), wI_o (by decide), wI_o (by decide), wI_o (by decide), wI_o (by decide), wI_s]
                · rw [wI_s]
                · rw [wI_o (by decide), g4 _ (by decide), wI_o (by decide), wI_o (by decide), wI_o (by decide), wI_o (by decide)]
                  by_cases e : j = N
                  · rw [if_pos e, e, wI_s]
                  · rw [if_neg e, wI_j e, wI_o (by decide)]
                · rw [wI_o (by decide), g4 _ (by decide), wI_o (by decide), wI_o (by decide), wI_o (by decide)]
                  by_cases e : j = N
                  · rw [if_pos e, e, wI_s]
                  · rw [if_neg e, wI_j e, wI_o (by decide), wI_o (by decide)]
                · rw [wI_o (by decide), g4 _ (by decide)]
                  by_cases e : j = N
                  · rw [if_pos e, e, wI_s]
                  · rw [if_neg e, wI_j e, wI_o (by decide), wI_o (by decide), wI_o (by decide), wI_o (by decide), wI_o (by decide)]
                · rw [wI_o (by decide), g4 _ (by decide), wI_o (by decide), wI_o (by decide)]
                  by_cases e : j = N
                  · rw [if_pos e, e, wI_s]
                  · rw [if_neg e, wI_j e, wI_o (by decide), wI_o (by decide), wI_o (by decide)]
                · rw [wI_o (by decide), g4 _ (by decide), wI_o (by decide)]
                  by_cases e : j = N
                  · rw [if_pos e, e, wI_s]
                  · rw [if_neg e, wI_j e, wI_o (by decide), wI_o (by decide), wI_o (by decide), wI_o (by decide)]
                · rw [wI_o (by decide)]; exact h3 i hi
                · rw [wI_o (by decide), h4 j (Or.inl hj), wI_o (by decide), wI_o (by decide), wI_o (by decide), wI_o (by decide), wI_o (by decide), wI_o (by decide)]))
            · have hil : i < l.length := by
                have z : ¬ q + l.length ≤ q + i := fun z => c103 (nI_le z (by omega))
                omega
              first | refine x_aload_n d_Mo_add_106 rfl rfl ?_ | refine x_aloadN_n d_Mo_add_106 rfl rfl ?_ | refine x_aloadE_n d_Mo_add_106 rfl rfl ?_ | refine x_aloadO_n d_Mo_add_106 rfl rfl ?_
              refine x_getR d_Mo_add_107 f_Mo_41 rfl (by first | exact hM.1 | exact hM.s rfl | assumption) (hM.r rfl) ?_
              refine x_bipush (v := 40) d_Mo_add_110 (by decide) ?_
              first | refine x_aload_n d_Mo_add_112 rfl rfl ?_ | refine x_aloadN_n d_Mo_add_112 rfl rfl ?_ | refine x_aloadE_n d_Mo_add_112 rfl rfl ?_ | refine x_aloadO_n d_Mo_add_112 rfl rfl ?_
              refine x_getI d_Mo_add_113 f_Mo_180 rfl (by first | exact hM.1 | exact hM.s rfl | assumption) ?_
              rw [f0.2 391 (by simp), wI_o (by decide), wI_o (by decide), wI_o (by decide), wI_o (by decide), wI_o (by decide), wI_j (by decide), hN]
              refine x_imul d_Mo_add_116 ?_
              first | rw [mul40] | rw [mul24] | rw [mul100] | rw [mul7] | skip
              refine x_iload d_Mo_add_117 rfl ?_
              refine x_iadd d_Mo_add_119 ?_
              first | rw [nI_add] | rw [nI_1] | skip
              refine x_iload_n d_Mo_add_120 rfl rfl ?_
              refine x_isub d_Mo_add_121 ?_
              rw [nI_sub (by omega), show 40 * N + (q + i) - q = 40 * N + i by omega]
              first | refine x_aload_n d_Mo_add_122 rfl rfl ?_ | refine x_aloadN_n d_Mo_add_122 rfl rfl ?_ | refine x_aloadE_n d_Mo_add_122 rfl rfl ?_ | refine x_aloadO_n d_Mo_add_122 rfl rfl ?_
              refine x_iload d_Mo_add_123 rfl ?_
              refine x_iald d_Mo_add_125 (by exact hs) (vp_in_nI (show q + i < Nc by omega) (by omega)) ?_
              rw [nI_clamp (by omega), hsrc i hil]
              refine x_iast d_Mo_add_126 (by exact hM.s rfl) (vp_in_nI (show 40 * N + i < 1920 by omega) (by decide)) ?_
              rw [nI_clamp (by omega)]
              refine x_iinc (v := nI (q + (i + 1))) d_Mo_add_127 rfl (nI_1 (q + i)) rfl ?_
              refine x_goto (tgt := 99) d_Mo_add_130 (by decide) ?_
              exact Wq.fg (ih (i + 1) _ (by omega) (by omega) (f0.put (by simp)) (fun j hj => by
                rcases hsp with z | z
                · rw [wI_o z]; exact hsrc j hj
                · rw [show wI τ 402 (40 * N + i) _ = wI τ 402 (40 * N + i) _ from rfl]
                  by_cases e : c = 402
                  · rw [e, wI_j (by omega), ← e]; exact hsrc j hj
                  · rw [wI_o e]; exact hsrc j hj) (fun j hj => by
                by_cases e : j = i
                · rw [e, wI_s]
                · rw [wI_j (by omega)]; exact h3 j (by omega)) (fun j hj => by
                rw [wI_j (by omega)]; exact h4 j (by omega))) ⟨rfl, rfl, rfl, rfl, rfl, rfl, trivial⟩
          first | refine x_aload_n d_Mo_add_42 rfl rfl ?_ | refine x_aloadN_n d_Mo_add_42 rfl rfl ?_ | refine x_aloadE_n d_Mo_add_42 rfl rfl ?_ | refine x_aloadO_n d_Mo_add_42 rfl rfl ?_
          refine x_getR d_Mo_add_43 f_Mo_35 rfl (by first | exact hM.1 | exact hM.s rfl | assumption) (hM.r rfl) ?_
          first | refine x_aload_n d_Mo_add_46 rfl rfl ?_ | refine x_aloadN_n d_Mo_add_46 rfl rfl ?_ | refine x_aloadE_n d_Mo_add_46 rfl rfl ?_ | refine x_aloadO_n d_Mo_add_46 rfl rfl ?_
          refine x_getI d_Mo_add_47 f_Mo_180 rfl (by first | exact hM.1 | exact hM.s rfl | assumption) ?_
          rw [wI_j (by decide), hN]
          refine x_bipush (v := 8) d_Mo_add_50 (by decide) ?_
          refine x_iast d_Mo_add_52 (by first | exact hM.1 | exact hM.s rfl | assumption) (vp_in_nI hN48 (by decide)) ?_
          rw [nI_clamp (by omega)]
          first | refine x_aload_n d_Mo_add_53 rfl rfl ?_ | refine x_aloadN_n d_Mo_add_53 rfl rfl ?_ | refine x_aloadE_n d_Mo_add_53 rfl rfl ?_ | refine x_aloadO_n d_Mo_add_53 rfl rfl ?_
          refine x_getR d_Mo_add_54 f_Mo_38 rfl (by first | exact hM.1 | exact hM.s rfl | assumption) (hM.r rfl) ?_
          first | refine x_aload_n d_Mo_add_57 rfl rfl ?_ | refine x_aloadN_n d_Mo_add_57 rfl rfl ?_ | refine x_aloadE_n d_Mo_add_57 rfl rfl ?_ | refine x_aloadO_n d_Mo_add_57 rfl rfl ?_
          refine x_getI d_Mo_add_58 f_Mo_180 rfl (by first | exact hM.1 | exact hM.s rfl | assumption) ?_
          rw [wI_o (by decide), wI_j (by decide), hN]
          refine x_iload_n d_Mo_add_61 rfl rfl ?_
          refine x_iast d_Mo_add_62 (by first | exact hM.1 | exact hM.s rfl | assumption) (vp_in_nI hN48 (by decide)) ?_
          rw [nI_clamp (by omega)]
          first | refine x_aload_n d_Mo_add_63 rfl rfl ?_ | refine x_aloadN_n d_Mo_add_63 rfl rfl ?_ | refine x_aloadE_n d_Mo_add_63 rfl rfl ?_ | refine x_aloadO_n d_Mo_add_63 rfl rfl ?_
          refine x_getR d_Mo_add_64 f_Mo_47 rfl (by first | exact hM.1 | exact hM.s rfl | assumption) (hM.r rfl) ?_
          first | refine x_aload_n d_Mo_add_67 rfl rfl ?_ | refine x_aloadN_n d_Mo_add_67 rfl rfl ?_ | refine x_aloadE_n d_Mo_add_67 rfl rfl ?_ | refine x_aloadO_n d_Mo_add_67 rfl rfl ?_
          refine x_getI d_Mo_add_68 f_Mo_180 rfl (by first | exact hM.1 | exact hM.s rfl | assumption) ?_
          rw [wI_o (by decide), wI_o (by decide), wI_j (by decide), hN]
          refine x_iconst (v := -1) d_Mo_add_71 (by decide) ?_
          refine x_iast d_Mo_add_72 (by first | exact hM.1 | exact hM.s rfl | assumption) (vp_in_nI hN48 (by decide)) ?_
          rw [nI_clamp (by omega)]
          first | refine x_aload_n d_Mo_add_73 rfl rfl ?_ | refine x_aloadN_n d_Mo_add_73 rfl rfl ?_ | refine x_aloadE_n d_Mo_add_73 rfl rfl ?_ | refine x_aloadO_n d_Mo_add_73 rfl rfl ?_
          refine x_getR d_Mo_add_74 f_Mo_53 rfl (by first | exact hM.1 | exact hM.s rfl | assumption) (hM.r rfl) ?_
          first | refine x_aload_n d_Mo_add_77 rfl rfl ?_ | refine x_aloadN_n d_Mo_add_77 rfl rfl ?_ | refine x_aloadE_n d_Mo_add_77 rfl rfl ?_ | refine x_aloadO_n d_Mo_add_77 rfl rfl ?_
          refine x_getI d_Mo_add_78 f_Mo_180 rfl (by first | exact hM.1 | exact hM.s rfl | assumption) ?_
          rw [wI_o (by decide), wI_o (by decide), wI_o (by decide), wI_j (by decide), hN]
          refine x_iconst (v := 0) d_Mo_add_81 (by decide) ?_
          refine x_iast d_Mo_add_82 (by first | exact hM.1 | exact hM.s rfl | assumption) (vp_in_nI hN48 (by decide)) ?_
          rw [nI_clamp (by omega)]
          first | refine x_aload_n d_Mo_add_83 rfl rfl ?_ | refine x_aloadN_n d_Mo_add_83 rfl rfl ?_ | refine x_aloadE_n d_Mo_add_83 rfl rfl ?_ | refine x_aloadO_n d_Mo_add_83 rfl rfl ?_
          refine x_getR d_Mo_add_84 f_Mo_44 rfl (by first | exact hM.1 | exact hM.s rfl | assumption) (hM.r rfl) ?_
          first | refine x_aload_n d_Mo_add_87 rfl rfl ?_ | refine x_aloadN_n d_Mo_add_87 rfl rfl ?_ | refine x_aloadE_n d_Mo_add_87 rfl rfl ?_ | refine x_aloadO_n d_Mo_add_87 rfl rfl ?_
          refine x_getI d_Mo_add_88 f_Mo_180 rfl (by first | exact hM.1 | exact hM.s rfl | assumption) ?_
          rw [wI_o (by decide), wI_o (by decide), wI_o (by decide), wI_o (by decide), wI_j (by decide), hN]
          refine x_iload d_Mo_add_91 rfl ?_
          refine x_iload_n d_Mo_add_93 rfl rfl ?_
          refine x_isub d_Mo_add_94 ?_
          rw [nI_sub (by omega), Nat.add_sub_cancel_left]
          refine x_iast d_Mo_add_95 (by first | exact hM.1 | exact hM.s rfl | assumption) (vp_in_nI hN48 (by decide)) ?_
          rw [nI_clamp (by omega)]
          refine x_iload_n d_Mo_add_96 rfl rfl ?_
          refine x_istore d_Mo_add_97 rfl ?_
          exact Wq.fg (lp (l.length + 1) 0 _ (by omega) (by omega) FrI.rf (fun j hj => by
            rw [wI_o (by omega), wI_o (by omega), wI_o (by omega), wI_o (by omega), wI_o (by omega), wI_o (by omega)]; exact hseg j hj) (fun j hj => absurd hj (Nat.not_lt_zero _)) (fun _ _ => rfl)) ⟨rfl, rfl, rfl, rfl, rfl, rfl, trivial⟩
      · first
        | exact absurd rfl c38
        | exact x_return d_Mo_add_41 rfl (hQ1 (by
            first
            | exact Or.inl (bI_n0 c5)
            | exact Or.inr (Or.inl (nI_inj (show nI N = nI 48 from c14) (by omega) (by decide)))
            | exact Or.inr (Or.inr (Nat.not_le.mp fun z => c23 (show nI l.length ≤ nI 40 from nI_le z (by decide))))
            | exact absurd rfl c38))
    · refine x_iload d_Mo_add_17 rfl ?_
      refine x_iload_n d_Mo_add_19 rfl rfl ?_
      refine x_isub d_Mo_add_20 ?_
      rw [nI_sub (by omega), Nat.add_sub_cancel_left]
      refine x_bipush (v := 40) d_Mo_add_21 (by decide) ?_
      refine x_icmp_le (tgt := 30) d_Mo_add_23 (by decide) (fun c23 => ?_) (fun c23 => ?_)
      · refine x_iconst (v := 0) d_Mo_add_30 (by decide) ?_
        refine x_putI d_Mo_add_31 (w_Mo_m_177 _) rfl (by first | rfl | decide) (by first | rfl | decide) (by first | exact hM.1 | exact hM.s rfl | assumption) ?_
        first | refine x_aload_n d_Mo_add_34 rfl rfl ?_ | refine x_aloadN_n d_Mo_add_34 rfl rfl ?_ | refine x_aloadE_n d_Mo_add_34 rfl rfl ?_ | refine x_aloadO_n d_Mo_add_34 rfl rfl ?_
        refine x_getI d_Mo_add_35 f_Mo_177 rfl (by first | exact hM.1 | exact hM.s rfl | assumption) ?_
        rw [wI_s]
        refine x_if_eq (tgt := 42) d_Mo_add_38 (by decide) (fun c38 => ?_) (fun c38 => ?_)
        · first
          | exact absurd c38 (by decide)
          | have hg0 : g = false := bI_0 c5
            have hN48 : N < 48 := by
              have : N ≠ 48 := fun z => c14 (by rw [z]; rfl)
              omega
            have hl40 : l.length ≤ 40 := (nI_leI (by omega) (by decide)).mp (show nI l.length ≤ nI 40 from c23)
            have lp : ∀ (k i : Nat) (τ : Mem), i ≤ l.length → l.length < i + k → FrI [402] (wI (wI (wI (wI (wI (wI σ 391 12 0) 400 N 8) 401 N up) 404 N (-1)) 406 N 0) 403 N (nI l.length)) τ → seg τ c q l → (∀ j, j < i → τ.1 402 (40 * N + j) = l.getD j (-1)) → (∀ j, j < 40 * N ∨ 40 * N + l.length ≤ j → τ.1 402 j = (wI (wI (wI (wI (wI (wI σ 391 12 0) 400 N 8) 401 N up) 404 N (-1)) 406 N 0) 403 N (nI l.length)).1 402 j) → Wq G M_Mo_add (Em G d 0 0 Q) 0 0 99 [some (rf G 391), some (.int up), some (rf G c), some (.int (nI q)), some (.int (nI (q + l.length))), some (.int (nI (q + i)))] [] [] Γ τ := by
              intro k
              induction k with
              | zero => intro i τ hi hk; omega
              | succ k ih =>
              intro i τ hi hk f0 hsrc h3 h4
              have hM : MoS Γ τ := (((((((hM.w (a := 391) (j := 12) (v := 0)).w (a := 400) (j := N) (v := 8)).w (a := 401) (j := N) (v := up)).w (a := 404) (j := N) (v := -1)).w (a := 406) (j := N) (v := 0)).w (a := 403) (j := N) (v := nI l.length))).fr f0
              refine x_iload d_Mo_add_99 rfl ?_
              refine x_iload d_Mo_add_101 rfl ?_
              refine x_icmp_ge (tgt := 133) d_Mo_add_103 (by decide) (fun c103 => ?_) (fun c103 => ?_)
              · have e : i = l.length := by have := (nI_leI (by omega) (by omega)).mp c103; omega
                subst e
                first | refine x_aload_n d_Mo_add_133 rfl rfl ?_ | refine x_aloadN_n d_Mo_add_133 rfl rfl ?_ | refine x_aloadE_n d_Mo_add_133 rfl rfl ?_ | refine x_aloadO_n d_Mo_add_133 rfl rfl ?_
                refine x_dup d_Mo_add_134 rfl ?_
                refine x_getI d_Mo_add_135 f_Mo_180 rfl (by first | exact hM.1 | exact hM.s rfl | assumption) ?_
                rw [f0.2 391 (by simp), wI_o (by decide), wI_o (by decide), wI_o (by decide), wI_o (by decide), wI_o (by decide), wI_j (by decide), hN]
                refine x_iconst (v := 1) d_Mo_add_138 (by decide) ?_
                refine x_iadd d_Mo_add_139 ?_
                first | rw [nI_add] | rw [nI_1] | skip
                first | rw [nI_add] | rw [nI_1] | skip
                refine x_putI d_Mo_add_140 (w_Mo_m_180 _) rfl (by first | rfl | decide) (by first | rfl | decide) (by first | exact hM.1 | exact hM.s rfl | assumption) ?_
                exact x_return d_Mo_add_143 rfl (hQ2 hg0 hN48 hl40 _ (by
                  have g4 : ∀ a, a ≠ 402 → τ.1 a = (wI (wI (wI (wI (wI (wI σ 391 12 0) 400 N 8) 401 N up) 404 N (-1)) 406 N 0) 403 N (nI l.length)).1 a := fun a ha => f0.2 a (by simp; exact ha)
                  refine ⟨⟨f0.1, fun a ha => ?_⟩, fun j h1 h2 => ?_, ?_, ?_, fun j => ?_, fun j => ?_, fun j => ?_, fun j => ?_, fun j => ?_, fun i hi => ?_, fun j hj => ?_⟩
                  · simp only [List.mem_cons, List.not_mem_nil, or_false, not_or] at ha
                    rw [wI_o ha.1, g4 a ha.2.2.2.1, wI_o ha.2.2.2.2.1, wI_o ha.2.2.2.2.2.2, wI_o ha.2.2.2.2.2.1, wI_o ha.2.2.1, wI_o ha.2.1, wI_o ha.1]
                  · rw [wI_j h2, g4 _ (by decide), wI_o (by decide), wI_o (by decide), wI_o (by decide), wI_o (by decide), wI_o (by decide), wI_j h1]
                  · rw [wI_j (by decide), g4 _ (by decide), wI_o (by decide), wI_o (by decide), wI_o (by decide), wI_o (by decide), wI_o (by decide), wI_s]
                  · rw [wI_s]
                  · rw [wI_o (by decide), g4 _ (by decide), wI_o (by decide), wI_o (by decide), wI_o (by decide), wI_o (by decide)]
                    by_cases e : j = N
                    · rw [if_pos e, e, wI_s]
                    · rw [if_neg e, wI_j e, wI_o (by decide)]
                  · rw [wI_o (by decide), g4 _ (by decide), wI_o (by decide), wI_o (by decide), wI_o (by decide)]
                    by_cases e : j = N
                    · rw [if_pos e, e, wI_s]
                    · rw [if_neg e, wI_j e, wI_o (by decide), wI_o (by decide)]
                  · rw [wI_o (by decide), g4 _ (by decide)]
                    by_cases e : j = N
                    · rw [if_pos e, e, wI_s]
                    · rw [if_neg e, wI_j e, wI_o (by decide), wI_o (by decide), wI_o (by decide), wI_o (by decide), wI_o (by decide)]
                  · rw [wI_o (by decide), g4 _ (by decide), wI_o (by decide), wI_o (by decide)]
                    by_cases e : j = N
                    · rw [if_pos e, e, wI_s]
                    · rw [if_neg e, wI_j e, wI_o (by decide), wI_o (by decide), wI_o (by decide)]
                  · rw [wI_o (by decide), g4 _ (by decide), wI_o (by decide)]
                    by_cases e : j = N
                    · rw [if_pos e, e, wI_s]
                    · rw [if_neg e, wI_j e, wI_o (by decide), wI_o (by decide), wI_o (by decide), wI_o (by decide)]
                  · rw [wI_o (by decide)]; exact h3 i hi
                  · rw [wI_o (by decide), h4 j (Or.inl hj), wI_o (by decide), wI_o (by decide), wI_o (by decide), wI_o (by decide), wI_o (by decide), wI_o (by decide)]))
              · have hil : i < l.length := by
                  have z : ¬ q + l.length ≤ q + i := fun z => c103 (nI_le z (by omega))
                  omega
                first | refine x_aload_n d_Mo_add_106 rfl rfl ?_ | refine x_aloadN_n d_Mo_add_106 rfl rfl ?_ | refine x_aloadE_n d_Mo_add_106 rfl rfl ?_ | refine x_aloadO_n d_Mo_add_106 rfl rfl ?_
                refine x_getR d_Mo_add_107 f_Mo_41 rfl (by first | exact hM.1 | exact hM.s rfl | assumption) (hM.r rfl) ?_
                refine x_bipush (v := 40) d_Mo_add_110 (by decide) ?_
                first | refine x_aload_n d_Mo_add_112 rfl rfl ?_ | refine x_aloadN_n d_Mo_add_112 rfl rfl ?_ | refine x_aloadE_n d_Mo_add_112 rfl rfl ?_ | refine x_aloadO_n d_Mo_add_112 rfl rfl ?_
                refine x_getI d_Mo_add_113 f_Mo_180 rfl (by first | exact hM.1 | exact hM.s rfl | assumption) ?_
                rw [f0.2 391 (by simp), wI_o (by decide), wI_o (by decide), wI_o (by decide), wI_o (by decide), wI_o (by decide), wI_j (by decide), hN]
                refine x_imul d_Mo_add_116 ?_
                first | rw [mul40] | rw [mul24] | rw [mul100] | rw [mul7] | skip
                refine x_iload d_Mo_add_117 rfl ?_
                refine x_iadd d_Mo_add_119 ?_
                first | rw [nI_add] | rw [nI_1] | skip
                refine x_iload_n d_Mo_add_120 rfl rfl ?_
                refine x_isub d_Mo_add_121 ?_
                rw [nI_sub (by omega), show 40 * N + (q + i) - q = 40 * N + i by omega]
                first | refine x_aload_n d_Mo_add_122 rfl rfl ?_ | refine x_aloadN_n d_Mo_add_122 rfl rfl ?_ | refine x_aloadE_n d_Mo_add_122 rfl rfl ?_ | refine x_aloadO_n d_Mo_add_122 rfl rfl ?_
                refine x_iload d_Mo_add_123 rfl ?_
                refine x_iald d_Mo_add_125 (by exact hs) (vp_in_nI (show q + i < Nc by omega) (by omega)) ?_
                rw [nI_clamp (by omega), hsrc i hil]
                refine x_iast d_Mo_add_126 (by exact hM.s rfl) (vp_in_nI (show 40 * N + i < 1920 by omega) (by decide)) ?_
                rw [nI_clamp (by omega)]
                refine x_iinc (v := nI (q + (i + 1))) d_Mo_add_127 rfl (nI_1 (q + i)) rfl ?_
                refine x_goto (tgt := 99) d_Mo_add_130 (by decide) ?_
                exact Wq.fg (ih (i + 1) _ (by omega) (by omega) (f0.put (by simp)) (fun j hj => by
                  rcases hsp with z | z
                  · rw [wI_o z]; exact hsrc j hj
                  · rw [show wI τ 402 (40 * N + i) _ = wI τ 402 (40 * N + i) _ from rfl]
                    by_cases e : c = 402
                    · rw [e, wI_j (by omega), ← e]; exact hsrc j hj
                    · rw [wI_o e]; exact hsrc j hj) (fun j hj => by
                  by_cases e : j = i
                  · rw [e, wI_s]
                  · rw [wI_j (by omega)]; exact h3 j (by omega)) (fun j hj => by
                  rw [wI_j (by omega)]; exact h4 j (by omega))) ⟨rfl, rfl, rfl, rfl, rfl, rfl, trivial⟩
            first | refine x_aload_n d_Mo_add_42 rfl rfl ?_ | refine x_aloadN_n d_Mo_add_42 rfl rfl ?_ | refine x_aloadE_n d_Mo_add_42 rfl rfl ?_ | refine x_aloadO_n d_Mo_add_42 rfl rfl ?_
            refine x_getR d_Mo_add_43 f_Mo_35 rfl (by first | exact hM.1 | exact hM.s rfl | assumption) (hM.r rfl) ?_
            first | refine x_aload_n d_Mo_add_46 rfl rfl ?_ | refine x_aloadN_n d_Mo_add_46 rfl rfl ?_ | refine x_aloadE_n d_Mo_add_46 rfl rfl ?_ | refine x_aloadO_n d_Mo_add_46 rfl rfl ?_
            refine x_getI d_Mo_add_47 f_Mo_180 rfl (by first | exact hM.1 | exact hM.s rfl | assumption) ?_
            rw [wI_j (by decide), hN]
            refine x_bipush (v := 8) d_Mo_add_50 (by decide) ?_
            refine x_iast d_Mo_add_52 (by first | exact hM.1 | exact hM.s rfl | assumption) (vp_in_nI hN48 (by decide)) ?_
            rw [nI_clamp (by omega)]
            first | refine x_aload_n d_Mo_add_53 rfl rfl ?_ | refine x_aloadN_n d_Mo_add_53 rfl rfl ?_ | refine x_aloadE_n d_Mo_add_53 rfl rfl ?_ | refine x_aloadO_n d_Mo_add_53 rfl rfl ?_
            refine x_getR d_Mo_add_54 f_Mo_38 rfl (by first | exact hM.1 | exact hM.s rfl | assumption) (hM.r rfl) ?_
            first | refine x_aload_n d_Mo_add_57 rfl rfl ?_ | refine x_aloadN_n d_Mo_add_57 rfl rfl ?_ | refine x_aloadE_n d_Mo_add_57 rfl rfl ?_ | refine x_aloadO_n d_Mo_add_57 rfl rfl ?_
            refine x_getI d_Mo_add_58 f_Mo_180 rfl (by first | exact hM.1 | exact hM.s rfl | assumption) ?_
            rw [wI_o (by decide), wI_j (by decide), hN]
            refine x_iload_n d_Mo_add_61 rfl rfl ?_
            refine x_iast d_Mo_add_62 (by first | exact hM.1 | exact hM.s rfl | assumption) (vp_in_nI hN48 (by decide)) ?_
            rw [nI_clamp (by omega)]
            first | refine x_aload_n d_Mo_add_63 rfl rfl ?_ | refine x_aloadN_n d_Mo_add_63 rfl rfl ?_ | refine x_aloadE_n d_Mo_add_63 rfl rfl ?_ | refine x_aloadO_n d_Mo_add_63 rfl rfl ?_
            refine x_getR d_Mo_add_64 f_Mo_47 rfl (by first | exact hM.1 | exact hM.s rfl | assumption) (hM.r rfl) ?_
            first | refine x_aload_n d_Mo_add_67 rfl rfl ?_ | refine x_aloadN_n d_Mo_add_67 rfl rfl ?_ | refine x_aloadE_n d_Mo_add_67 rfl rfl ?_ | refine x_aloadO_n d_Mo_add_67 rfl rfl ?_
            refine x_getI d_Mo_add_68 f_Mo_180 rfl (by first | exact hM.1 | exact hM.s rfl | assumption) ?_
            rw [wI_o (by decide), wI_o (by decide), wI_j (by decide), hN]
            refine x_iconst (v := -1) d_Mo_add_71 (by decide) ?_
            refine x_iast d_Mo_add_72 (by first | exact hM.1 | exact hM.s rfl | assumption) (vp_in_nI hN48 (by decide)) ?_
            rw [nI_clamp (by omega)]
            first | refine x_aload_n d_Mo_add_73 rfl rfl ?_ | refine x_aloadN_n d_Mo_add_73 rfl rfl ?_ | refine x_aloadE_n d_Mo_add_73 rfl rfl ?_ | refine x_aloadO_n d_Mo_add_73 rfl rfl ?_
            refine x_getR d_Mo_add_74 f_Mo_53 rfl (by first | exact hM.1 | exact hM.s rfl | assumption) (hM.r rfl) ?_
            first | refine x_aload_n d_Mo_add_77 rfl rfl ?_ | refine x_aloadN_n d_Mo_add_77 rfl rfl ?_ | refine x_aloadE_n d_Mo_add_77 rfl rfl ?_ | refine x_aloadO_n d_Mo_add_77 rfl rfl ?_
            refine x_getI d_Mo_add_78 f_Mo_180 rfl (by first | exact hM.1 | exact hM.s rfl | assumption) ?_
            rw [wI_o (by decide), wI_o (by decide), wI_o (by decide), wI_j (by decide), hN]
            refine x_iconst (v := 0) d_Mo_add_81 (by decide) ?_
            refine x_iast d_Mo_add_82 (by first | exact hM.1 | exact hM.s rfl | assumption) (vp_in_nI hN48 (by decide)) ?_
            rw [nI_clamp (by omega)]
            first | refine x_aload_n d_Mo_add_83 rfl rfl ?_ | refine x_aloadN_n d_Mo_add_83 rfl rfl ?_ | refine x_aloadE_n d_Mo_add_83 rfl rfl ?_ | refine x_aloadO_n d_Mo_add_83 rfl rfl ?_
            refine x_getR d_Mo_add_84 f_Mo_44 rfl (by first | exact hM.1 | exact hM.s rfl | assumption) (hM.r rfl) ?_
            first | refine x_aload_n d_Mo_add_87 rfl rfl ?_ | refine x_aloadN_n d_Mo_add_87 rfl rfl ?_ | refine x_aloadE_n d_Mo_add_87 rfl rfl ?_ | refine x_aloadO_n d_Mo_add_87 rfl rfl ?_
            refine x_getI d_Mo_add_88 f_Mo_180 rfl (by first | exact hM.1 | exact hM.s rfl | assumption) ?_
            rw [wI_o (by decide), wI_o (by decide), wI_o (by decide), wI_o (by decide), wI_j (by decide), hN]
            refine x_iload d_Mo_add_91 rfl ?_
            refine x_iload_n d_Mo_add_93 rfl rfl ?_
            refine x_isub d_Mo_add_94 ?_
            rw [nI_sub (by omega), Nat.add_sub_cancel_left]
            refine x_iast d_Mo_add_95 (by first | exact hM.1 | exact hM.s rfl | assumption) (vp_in_nI hN48 (by decide)) ?_
            rw [nI_clamp (by omega)]
            refine x_iload_n d_Mo_add_96 rfl rfl ?_
            refine x_istore d_Mo_add_97 rfl ?_
            exact Wq.fg (lp (l.length + 1) 0 _ (by omega) (by omega) FrI.rf (fun j hj => by
              rw [wI_o (by omega), wI_o (by omega), wI_o (by omega), wI_o (by omega), wI_o (by omega), wI_o (by omega)]; exact hseg j hj) (fun j hj => absurd hj (Nat.not_lt_zero _)) (fun _ _ => rfl)) ⟨rfl, rfl, rfl, rfl, rfl, rfl, trivial⟩
        · first
          | exact absurd rfl c38
          | exact x_return d_Mo_add_41 rfl (hQ1 (by
              first
              | exact Or.inl (bI_n0 c5)
              | exact Or.inr (Or.inl (nI_inj (show nI N = nI 48 from c14) (by omega) (by decide)))
              | exact Or.inr (Or.inr (Nat.not_le.mp fun z => c23 (show nI l.length ≤ nI 40 from nI_le z (by decide))))
              | exact absurd rfl c38))
      · refine x_iconst (v := 1) d_Mo_add_26 (by decide) ?_
        refine x_goto (tgt := 31) d_Mo_add_27 (by decide) ?_
        refine x_putI d_Mo_add_31 (w_Mo_m_177 _) rfl (by first | rfl | decide) (by first | rfl | decide) (by first | exact hM.1 | exact hM.s rfl | assumption) ?_
        first | refine x_aload_n d_Mo_add_34 rfl rfl ?_ | refine x_aloadN_n d_Mo_add_34 rfl rfl ?_ | refine x_aloadE_n d_Mo_add_34 rfl rfl ?_ | refine x_aloadO_n d_Mo_add_34 rfl rfl ?_
        refine x_getI d_Mo_add_35 f_Mo_177 rfl (by first | exact hM.1 | exact hM.s rfl | assumption) ?_
        rw [wI_s]
        refine x_if_eq (tgt := 42) d_Mo_add_38 (by decide) (fun c38 => ?_) (fun c38 => ?_)
        · first
          | exact absurd c38 (by decide)
          | have hg0 : g = false := bI_0 c5
            have hN48 : N < 48 := by
              have : N ≠ 48 := fun z => c14 (by rw [z]; rfl)
              omega
            have hl40 : l.length ≤ 40 := (nI_leI (by omega) (by decide)).mp (show nI l.length ≤ nI 40 from c23)
            have lp : ∀ (k i : Nat) (τ : Mem), i ≤ l.length → l.length < i + k → FrI [402] (wI (wI (wI (wI (wI (wI σ 391 12 0) 400 N 8) 401 N up) 404 N (-1)) 406 N 0) 403 N (nI l.length)) τ → seg τ c q l → (∀ j, j < i → τ.1 402 (40 * N + j) = l.getD j (-1)) → (∀ j, j < 40 * N ∨ 40 * N + l.length ≤ j → τ.1 402 j = (wI (wI (wI (wI (wI (wI σ 391 12 0) 400 N 8) 401 N up) 404 N (-1)) 406 N 0) 403 N (nI l.length)).1 402 j) → Wq G M_Mo_add (Em G d 0 0 Q) 0 0 99 [some (rf G 391), some (.int up), some (rf G c), some (.int (nI q)), some (.int (nI (q + l.length))), some (.int (nI (q + i)))] [] [] Γ τ := by
              intro k
              induction k with
              | zero => intro i τ hi hk; omega
              | succ k ih =>
              intro i τ hi hk f0 hsrc h3 h4
              have hM : MoS Γ τ := (((((((hM.w (a := 391) (j := 12) (v := 0)).w (a := 400) (j := N) (v := 8)).w (a := 401) (j := N) (v := up)).w (a := 404) (j := N) (v := -1)).w (a := 406) (j := N) (v := 0)).w (a := 403) (j := N) (v := nI l.length))).fr f0
              refine x_iload d_Mo_add_99 rfl ?_
              refine x_iload d_Mo_add_101 rfl ?_
              refine x_icmp_ge (tgt := 133) d_Mo_add_103 (by decide) (fun c103 => ?_) (fun c103 => ?_)
              · have e : i = l.length := by have := (nI_leI (by omega) (by omega)).mp c103; omega
                subst e
                first | refine x_aload_n d_Mo_add_133 rfl rfl ?_ | refine x_aloadN_n d_Mo_add_133 rfl rfl ?_ | refine x_aloadE_n d_Mo_add_133 rfl rfl ?_ | refine x_aloadO_n d_Mo_add_133 rfl rfl ?_
                refine x_dup d_Mo_add_134 rfl ?_
                refine x_getI d_Mo_add_135 f_Mo_180 rfl (by first | exact hM.1 | exact hM.s rfl | assumption) ?_
                rw [f0.2 391 (by simp), wI_o (by decide), wI_o (by decide), wI_o (by decide), wI_o (by decide), wI_o (by decide), wI_j (by decide), hN]
                refine x_iconst (v := 1) d_Mo_add_138 (by decide) ?_
                refine x_iadd d_Mo_add_139 ?_
                first | rw [nI_add] | rw [nI_1] | skip
                first | rw [nI_add] | rw [nI_1] | skip
                refine x_putI d_Mo_add_140 (w_Mo_m_180 _) rfl (by first | rfl | decide) (by first | rfl | decide) (by first | exact hM.1 | exact hM.s rfl | assumption) ?_
                exact x_return d_Mo_add_143 rfl (hQ2 hg0 hN48 hl40 _ (by
                  have g4 : ∀ a, a ≠ 402 → τ.1 a = (wI (wI (wI (wI (wI (wI σ 391 12 0) 400 N 8) 401 N up) 404 N (-1)) 406 N 0) 403 N (nI l.length)).1 a := fun a ha => f0.2 a (by simp; exact ha)
                  refine ⟨⟨f0.1, fun a ha => ?_⟩, fun j h1 h2 => ?_, ?_, ?_, fun j => ?_, fun j => ?_, fun j => ?_, fun j => ?_, fun j => ?_, fun i hi => ?_, fun j hj => ?_⟩
                  · simp only [List.mem_cons, List.not_mem_nil, or_false, not_or] at ha
                    rw [wI_o ha.1, g4 a ha.2.2.2.1, wI_o ha.2.2.2.2.1, wI_o ha.2.2.2.2.2.2, wI_o ha.2.2.2.2.2.1, wI_o ha.2.2.1, wI_o ha.2.1, wI_o ha.1]
                  · rw [wI_j h2, g4 _ (by decide), wI_o (by decide), wI_o (by decide), wI_o (by decide), wI_o (by decide), wI_o (by decide), wI_j h1]
                  · rw [wI_j (by decide), g4 _ (by decide), wI_o (by decide), wI_o (by decide), wI_o (by decide), wI_o (by decide), wI_o (by decide), wI_s]
                  · rw [wI_s]
                  · rw [wI_o (by decide), g4 _ (by decide), wI_o (by decide), wI_o (by decide), wI_o (by decide), wI_o (by decide)]
                    by_cases e : j = N
                    · rw [if_pos e, e, wI_s]
                    · rw [if_neg e, wI_j e, wI_o (by decide)]
                  · rw [wI_o (by decide), g4 _ (by decide), wI_o (by decide), wI_o (by decide), wI_o (by decide)]
                    by_cases e : j = N
                    · rw [if_pos e, e, wI_s]
                    · rw [if_neg e, wI_j e, wI_o (by decide), wI_o (by decide)]
                  · rw [wI_o (by decide), g4 _ (by decide)]
                    by_cases e : j = N
                    · rw [if_pos e, e, wI_s]
                    · rw [if_neg e, wI_j e, wI_o (by decide), wI_o (by decide), wI_o (by decide), wI_o (by decide), wI_o (by decide)]
                  · rw [wI_o (by decide), g4 _ (by decide), wI_o (by decide), wI_o (by decide)]
                    by_cases e : j = N
                    · rw [if_pos e, e, wI_s]
                    · rw [if_neg e, wI_j e, wI_o (by decide), wI_o (by decide), wI_o (by decide)]
                  · rw [wI_o (by decide), g4 _ (by decide), wI_o (by decide)]
                    by_cases e : j = N
                    · rw [if_pos e, e, wI_s]
                    · rw [if_neg e, wI_j e, wI_o (by decide), wI_o (by decide), wI_o (by decide), wI_o (by decide)]
                  · rw [wI_o (by decide)]; exact h3 i hi
                  · rw [wI_o (by decide), h4 j (Or.inl hj), wI_o (by decide), wI_o (by decide), wI_o (by decide), wI_o (by decide), wI_o (by decide), wI_o (by decide)]))
              · have hil : i < l.length := by
                  have z : ¬ q + l.length ≤ q + i := fun z => c103 (nI_le z (by omega))
                  omega
                first | refine x_aload_n d_Mo_add_106 rfl rfl ?_ | refine x_aloadN_n d_Mo_add_106 rfl rfl ?_ | refine x_aloadE_n d_Mo_add_106 rfl rfl ?_ | refine x_aloadO_n d_Mo_add_106 rfl rfl ?_
                refine x_getR d_Mo_add_107 f_Mo_41 rfl (by first | exact hM.1 | exact hM.s rfl | assumption) (hM.r rfl) ?_
                refine x_bipush (v := 40) d_Mo_add_110 (by decide) ?_
                first | refine x_aload_n d_Mo_add_112 rfl rfl ?_ | refine x_aloadN_n d_Mo_add_112 rfl rfl ?_ | refine x_aloadE_n d_Mo_add_112 rfl rfl ?_ | refine x_aloadO_n d_Mo_add_112 rfl rfl ?_
                refine x_getI d_Mo_add_113 f_Mo_180 rfl (by first | exact hM.1 | exact hM.s rfl | assumption) ?_
                rw [f0.2 391 (by simp), wI_o (by decide), wI_o (by decide), wI_o (by decide), wI_o (by decide), wI_o (by decide), wI_j (by decide), hN]
                refine x_imul d_Mo_add_116 ?_
                first | rw [mul40] | rw [mul24] | rw [mul100] | rw [mul7] | skip
                refine x_iload d_Mo_add_117 rfl ?_
                refine x_iadd d_Mo_add_119 ?_
                first | rw [nI_add] | rw [nI_1] | skip
                refine x_iload_n d_Mo_add_120 rfl rfl ?_
                refine x_isub d_Mo_add_121 ?_
                rw [nI_sub (by omega), show 40 * N + (q + i) - q = 40 * N + i by omega]
                first | refine x_aload_n d_Mo_add_122 rfl rfl ?_ | refine x_aloadN_n d_Mo_add_122 rfl rfl ?_ | refine x_aloadE_n d_Mo_add_122 rfl rfl ?_ | refine x_aloadO_n d_Mo_add_122 rfl rfl ?_
                refine x_iload d_Mo_add_123 rfl ?_
                refine x_iald d_Mo_add_125 (by exact hs) (vp_in_nI (show q + i < Nc by omega) (by omega)) ?_
                rw [nI_clamp (by omega), hsrc i hil]
                refine x_iast d_Mo_add_126 (by exact hM.s rfl) (vp_in_nI (show 40 * N + i < 1920 by omega) (by decide)) ?_
                rw [nI_clamp (by omega)]
                refine x_iinc (v := nI (q + (i + 1))) d_Mo_add_127 rfl (nI_1 (q + i)) rfl ?_
                refine x_goto (tgt := 99) d_Mo_add_130 (by decide) ?_
                exact Wq.fg (ih (i + 1) _ (by omega) (by omega) (f0.put (by simp)) (fun j hj => by
                  rcases hsp with z | z
                  · rw [wI_o z]; exact hsrc j hj
                  · rw [show wI τ 402 (40 * N + i) _ = wI τ 402 (40 * N + i) _ from rfl]
                    by_cases e : c = 402
                    · rw [e, wI_j (by omega), ← e]; exact hsrc j hj
                    · rw [wI_o e]; exact hsrc j hj) (fun j hj => by
                  by_cases e : j = i
                  · rw [e, wI_s]
                  · rw [wI_j (by omega)]; exact h3 j (by omega)) (fun j hj => by
                  rw [wI_j (by omega)]; exact h4 j (by omega))) ⟨rfl, rfl, rfl, rfl, rfl, rfl, trivial⟩
            first | refine x_aload_n d_Mo_add_42 rfl rfl ?_ | refine x_aloadN_n d_Mo_add_42 rfl rfl ?_ | refine x_aloadE_n d_Mo_add_42 rfl rfl ?_ | refine x_aloadO_n d_Mo_add_42 rfl rfl ?_
            refine x_getR d_Mo_add_43 f_Mo_35 rfl (by first | exact hM.1 | exact hM.s rfl | assumption) (hM.r rfl) ?_
            first | refine x_aload_n d_Mo_add_46 rfl rfl ?_ | refine x_aloadN_n d_Mo_add_46 rfl rfl ?_ | refine x_aloadE_n d_Mo_add_46 rfl rfl ?_ | refine x_aloadO_n d_Mo_add_46 rfl rfl ?_
            refine x_getI d_Mo_add_47 f_Mo_180 rfl (by first | exact hM.1 | exact hM.s rfl | assumption) ?_
            rw [wI_j (by decide), hN]
            refine x_bipush (v := 8) d_Mo_add_50 (by decide) ?_
            refine x_iast d_Mo_add_52 (by first | exact hM.1 | exact hM.s rfl | assumption) (vp_in_nI hN48 (by decide)) ?_
            rw [nI_clamp (by omega)]
            first | refine x_aload_n d_Mo_add_53 rfl rfl ?_ | refine x_aloadN_n d_Mo_add_53 rfl rfl ?_ | refine x_aloadE_n d_Mo_add_53 rfl rfl ?_ | refine x_aloadO_n d_Mo_add_53 rfl rfl ?_
            refine x_getR d_Mo_add_54 f_Mo_38 rfl (by first | exact hM.1 | exact hM.s rfl | assumption) (hM.r rfl) ?_
            first | refine x_aload_n d_Mo_add_57 rfl rfl ?_ | refine x_aloadN_n d_Mo_add_57 rfl rfl ?_ | refine x_aloadE_n d_Mo_add_57 rfl rfl ?_ | refine x_aloadO_n d_Mo_add_57 rfl rfl ?_
            refine x_getI d_Mo_add_58 f_Mo_180 rfl (by first | exact hM.1 | exact hM.s rfl | assumption) ?_
            rw [wI_o (by decide), wI_j (by decide), hN]
            refine x_iload_n d_Mo_add_61 rfl rfl ?_
            refine x_iast d_Mo_add_62 (by first | exact hM.1 | exact hM.s rfl | assumption) (vp_in_nI hN48 (by decide)) ?_
            rw [nI_clamp (by omega)]
            first | refine x_aload_n d_Mo_add_63 rfl rfl ?_ | refine x_aloadN_n d_Mo_add_63 rfl rfl ?_ | refine x_aloadE_n d_Mo_add_63 rfl rfl ?_ | refine x_aloadO_n d_Mo_add_63 rfl rfl ?_
            refine x_getR d_Mo_add_64 f_Mo_47 rfl (by first | exact hM.1 | exact hM.s rfl | assumption) (hM.r rfl) ?_
            first | refine x_aload_n d_Mo_add_67 rfl rfl ?_ | refine x_aloadN_n d_Mo_add_67 rfl rfl ?_ | refine x_aloadE_n d_Mo_add_67 rfl rfl ?_ | refine x_aloadO_n d_Mo_add_67 rfl rfl ?_
            refine x_getI d_Mo_add_68 f_Mo_180 rfl (by first | exact hM.1 | exact hM.s rfl | assumption) ?_
            rw [wI_o (by decide), wI_o (by decide), wI_j (by decide), hN]
            refine x_iconst (v := -1) d_Mo_add_71 (by decide) ?_
            refine x_iast d_Mo_add_72 (by first | exact hM.1 | exact hM.s rfl | assumption) (vp_in_nI hN48 (by decide)) ?_
            rw [nI_clamp (by omega)]
            first | refine x_aload_n d_Mo_add_73 rfl rfl ?_ | refine x_aloadN_n d_Mo_add_73 rfl rfl ?_ | refine x_aloadE_n d_Mo_add_73 rfl rfl ?_ | refine x_aloadO_n d_Mo_add_73 rfl rfl ?_
            refine x_getR d_Mo_add_74 f_Mo_53 rfl (by first | exact hM.1 | exact hM.s rfl | assumption) (hM.r rfl) ?_
            first | refine x_aload_n d_Mo_add_77 rfl rfl ?_ | refine x_aloadN_n d_Mo_add_77 rfl rfl ?_ | refine x_aloadE_n d_Mo_add_77 rfl rfl ?_ | refine x_aloadO_n d_Mo_add_77 rfl rfl ?_
            refine x_getI d_Mo_add_78 f_Mo_180 rfl (by first | exact hM.1 | exact hM.s rfl | assumption) ?_
            rw [wI_o (by decide), wI_o (by decide), wI_o (by decide), wI_j (by decide), hN]
            refine x_iconst (v := 0) d_Mo_add_81 (by decide) ?_
            refine x_iast d_Mo_add_82 (by first | exact hM.1 | exact hM.s rfl | assumption) (vp_in_nI hN48 (by decide)) ?_
            rw [nI_clamp (by omega)]
            first | refine x_aload_n d_Mo_add_83 rfl rfl ?_ | refine x_aloadN_n d_Mo_add_83 rfl rfl ?_ | refine x_aloadE_n d_Mo_add_83 rfl rfl ?_ | refine x_aloadO_n d_Mo_add_83 rfl rfl ?_
            refine x_getR d_Mo_add_84 f_Mo_44 rfl (by first | exact hM.1 | exact hM.s rfl | assumption) (hM.r rfl) ?_
            first | refine x_aload_n d_Mo_add_87 rfl rfl ?_ | refine x_aloadN_n d_Mo_add_87 rfl rfl ?_ | refine x_aloadE_n d_Mo_add_87 rfl rfl ?_ | refine x_aloadO_n d_Mo_add_87 rfl rfl ?_
            refine x_getI d_Mo_add_88 f_Mo_180 rfl (by first | exact hM.1 | exact hM.s rfl | assumption) ?_
            rw [wI_o (by decide), wI_o (by decide), wI_o (by decide), wI_o (by decide), wI_j (by decide), hN]
            refine x_iload d_Mo_add_91 rfl ?_
            refine x_iload_n d_Mo_add_93 rfl rfl ?_
            refine x_isub d_Mo_add_94 ?_
            rw [nI_sub (by omega), Nat.add_sub_cancel_left]
            refine x_iast d_Mo_add_95 (by first | exact hM.1 | exact hM.s rfl | assumption) (vp_in_nI hN48 (by decide)) ?_
            rw [nI_clamp (by omega)]
            refine x_iload_n d_Mo_add_96 rfl rfl ?_
            refine x_istore d_Mo_add_97 rfl ?_
            exact Wq.fg (lp (l.length + 1) 0 _ (by omega) (by omega) FrI.rf (fun j hj => by
              rw [wI_o (by omega), wI_o (by omega), wI_o (by omega), wI_o (by omega), wI_o (by omega), wI_o (by omega)]; exact hseg j hj) (fun j hj => absurd hj (Nat.not_lt_zero _)) (fun _ _ => rfl)) ⟨rfl, rfl, rfl, rfl, rfl, rfl, trivial⟩
        · first
          | exact absurd rfl c38
          | exact x_return d_Mo_add_41 rfl (hQ1 (by
              first
              | exact Or.inl (bI_n0 c5)
              | exact Or.inr (Or.inl (nI_inj (show nI N = nI 48 from c14) (by omega) (by decide)))
              | exact Or.inr (Or.inr (Nat.not_le.mp fun z => c23 (show nI l.length ≤ nI 40 from nI_le z (by decide))))
              | exact absurd rfl c38))
set_option maxRecDepth 10000 in
set_option maxHeartbeats 1000000 in
theorem c_Mo_load {G : Ctx} {d : Nat} {Γ : List Sh} {σ : Mem} {Q : Option Value → List Sh → Mem → Prop} {n : Nat} {zs : List Int32} (hM : MoS Γ σ) (hn : n < 48) (hsz : σ.1 403 n = nI zs.length) (hseg : seg σ 402 (40 * n) zs) (hl : zs.length ≤ 40) (hQ : ∀ τ, FrI [415] (wI σ 391 30 (nI zs.length)) τ → seg τ 415 0 zs → Q none Γ τ) : Ct G M_Mo_load d 0 0 [rf G 391, .int (nI n)] Γ σ Q := by
  have lp : ∀ (k i : Nat) (τ : Mem), i ≤ zs.length → zs.length < i + k → FrI [415] (wI σ 391 30 (nI zs.length)) τ → (∀ j, j < i → τ.1 415 j = zs.getD j (-1)) → Wq G M_Mo_load (Em G d 0 0 Q) 0 0 12 [some (rf G 391), some (.int (nI n)), some (.int (nI i))] [] [] Γ τ := by
    intro k
    induction k with
    | zero => intro i τ hi hk; omega
    | succ k ih =>
    intro i τ hi hk f0 h3
    have hM := (hM.w (a := 391) (j := 30) (v := nI zs.length)).fr f0
    refine x_iload_n d_Mo_load_12 rfl rfl ?_
    first | refine x_aload_n d_Mo_load_13 rfl rfl ?_ | refine x_aloadN_n d_Mo_load_13 rfl rfl ?_ | refine x_aloadE_n d_Mo_load_13 rfl rfl ?_ | refine x_aloadO_n d_Mo_load_13 rfl rfl ?_
    refine x_getI d_Mo_load_14 f_Mo_157 rfl (by first | exact hM.1 | exact hM.s rfl | assumption) ?_
    rw [f0.2 391 (by simp), wI_s]
    refine x_icmp_ge (tgt := 43) d_Mo_load_17 (by decide) (fun c17 => ?_) (fun c17 => ?_)
    · have e : i = zs.length := by have := (nI_leI (by omega) (by omega)).mp c17; omega
      subst e
      exact x_return d_Mo_load_43 rfl (hQ τ f0 (fun j hj => by rw [Nat.zero_add]; exact h3 j hj))
    · have hil : i < zs.length := Nat.not_le.mp fun z => c17 (nI_le z (by omega))
      first | refine x_aload_n d_Mo_load_20 rfl rfl ?_ | refine x_aloadN_n d_Mo_load_20 rfl rfl ?_ | refine x_aloadE_n d_Mo_load_20 rfl rfl ?_ | refine x_aloadO_n d_Mo_load_20 rfl rfl ?_
      refine x_getR d_Mo_load_21 f_Mo_80 rfl (by first | exact hM.1 | exact hM.s rfl | assumption) (hM.r rfl) ?_
      refine x_iload_n d_Mo_load_24 rfl rfl ?_
      first | refine x_aload_n d_Mo_load_25 rfl rfl ?_ | refine x_aloadN_n d_Mo_load_25 rfl rfl ?_ | refine x_aloadE_n d_Mo_load_25 rfl rfl ?_ | refine x_aloadO_n d_Mo_load_25 rfl rfl ?_
      refine x_getR d_Mo_load_26 f_Mo_41 rfl (by first | exact hM.1 | exact hM.s rfl | assumption) (hM.r rfl) ?_
      refine x_bipush (v := 40) d_Mo_load_29 (by decide) ?_
      refine x_iload_n d_Mo_load_31 rfl rfl ?_
      refine x_imul d_Mo_load_32 ?_
      first | rw [mul40] | rw [mul24] | rw [mul100] | rw [mul7] | skip
      refine x_iload_n d_Mo_load_33 rfl rfl ?_
      refine x_iadd d_Mo_load_34 ?_
      first | rw [nI_add] | rw [nI_1] | skip
      refine x_iald d_Mo_load_35 (by first | exact hM.1 | exact hM.s rfl | assumption) (vp_in_nI (show 40 * n + i < 1920 by omega) (by decide)) ?_
      rw [nI_clamp (by omega), f0.2 402 (by simp), wI_o (by decide), hseg i hil]
      refine x_iast d_Mo_load_36 (by first | exact hM.1 | exact hM.s rfl | assumption) (vp_in_nI (show i < 20400 by omega) (by decide)) ?_
      rw [nI_clamp (by omega)]
      refine x_iinc (v := nI (i + 1)) d_Mo_load_37 rfl (nI_1 i) rfl ?_
      refine x_goto (tgt := 12) d_Mo_load_40 (by decide) ?_
      exact Wq.fg (ih (i + 1) _ (by omega) (by omega) (f0.put (by simp)) (fun j hj => by
        by_cases e : j = i
        · rw [e, wI_s]
        · rw [wI_j e]; exact h3 j (by omega))) ⟨rfl, rfl, rfl, trivial⟩
  refine Ct.of (lv := [some (rf G 391), some (.int (nI n)), none]) (ll := []) rfl rfl (EN.cat (n := 1) ⟨rfl, rfl, trivial⟩ (Nat.le_of_ble_eq_true rfl)) ?_
  first | refine x_aload_n d_Mo_load_0 rfl rfl ?_ | refine x_aloadN_n d_Mo_load_0 rfl rfl ?_ | refine x_aloadE_n d_Mo_load_0 rfl rfl ?_ | refine x_aloadO_n d_Mo_load_0 rfl rfl ?_
  first | refine x_aload_n d_Mo_load_1 rfl rfl ?_ | refine x_aloadN_n d_Mo_load_1 rfl rfl ?_ | refine x_aloadE_n d_Mo_load_1 rfl rfl ?_ | refine x_aloadO_n d_Mo_load_1 rfl rfl ?_
  refine x_getR d_Mo_load_2 f_Mo_44 rfl (by first | exact hM.1 | exact hM.s rfl | assumption) (hM.r rfl) ?_
  refine x_iload_n d_Mo_load_5 rfl rfl ?_
  refine x_iald d_Mo_load_6 (by first | exact hM.1 | exact hM.s rfl | assumption) (vp_in_nI hn (by decide)) ?_
  rw [nI_clamp (by omega), hsz]
  refine x_putI d_Mo_load_7 (w_Mo_m_157 _) rfl (by first | rfl | decide) (by first | rfl | decide) (by first | exact hM.1 | exact hM.s rfl | assumption) ?_
  refine x_iconst (v := 0) d_Mo_load_10 (by decide) ?_
  refine x_istore_n d_Mo_load_11 rfl rfl ?_
  exact Wq.fg (lp (zs.length + 1) 0 _ (by omega) (by omega) FrI.rf (fun j hj => absurd hj (Nat.not_lt_zero _))) ⟨rfl, rfl, by rw [nI_0], trivial⟩
def lowO (f : Nat → Int32) : Nat → Nat → Int32
  | 0, _ => -1
  | k + 1, n => if f n = 8 then nI n else lowO f k (n + 1)
set_option maxRecDepth 10000 in
set_option maxHeartbeats 1000000 in
theorem c_Mo_lowestOpen {G : Ctx} {d : Nat} {Γ : List Sh} {σ : Mem} {Q : Option Value → List Sh → Mem → Prop} {N : Nat} (hM : MoS Γ σ) (hN : σ.1 391 13 = nI N) (hN48 : N ≤ 48) (hQ : Q (some (.int (lowO (σ.1 400) N 0))) Γ σ) : Ct G M_Mo_lowestOpen d 0 0 [rf G 391] Γ σ Q := by
  have lp : ∀ (k i : Nat), i ≤ N → N < i + k → lowO (σ.1 400) N 0 = lowO (σ.1 400) (N - i) i → Wq G M_Mo_lowestOpen (Em G d 0 0 Q) 0 0 2 [some (rf G 391), some (.int (nI i))] [] [] Γ σ := by
    intro k
    induction k with
    | zero => intro i hi hk; omega
    | succ k ih =>
    intro i hi hk hr0
    refine x_iload_n d_Mo_lowestOpen_2 rfl rfl ?_
    first | refine x_aload_n d_Mo_lowestOpen_3 rfl rfl ?_ | refine x_aloadN_n d_Mo_lowestOpen_3 rfl rfl ?_ | refine x_aloadE_n d_Mo_lowestOpen_3 rfl rfl ?_ | refine x_aloadO_n d_Mo_lowestOpen_3 rfl rfl ?_
    refine x_getI d_Mo_lowestOpen_4 f_Mo_180 rfl (by first | exact hM.1 | exact hM.s rfl | assumption) ?_
    rw [hN]
    refine x_icmp_ge (tgt := 29) d_Mo_lowestOpen_7 (by decide) (fun c7 => ?_) (fun c7 => ?_)
    · refine x_iconst (v := -1) d_Mo_lowestOpen_29 (by decide) ?_
      exact x_ireturn d_Mo_lowestOpen_30 rfl (by first | rfl | decide) (by
        have e : N - i = 0 := by have := (nI_leI (by omega) (by omega)).mp c7; omega
        rw [e] at hr0
        rw [hr0] at hQ
        exact hQ)
    · have hil : i < N := Nat.not_le.mp fun z => c7 (nI_le z (by omega))
      obtain ⟨r, hr⟩ : ∃ r, N - i = r + 1 := ⟨N - i - 1, by omega⟩
      first | refine x_aload_n d_Mo_lowestOpen_10 rfl rfl ?_ | refine x_aloadN_n d_Mo_lowestOpen_10 rfl rfl ?_ | refine x_aloadE_n d_Mo_lowestOpen_10 rfl rfl ?_ | refine x_aloadO_n d_Mo_lowestOpen_10 rfl rfl ?_
      refine x_getR d_Mo_lowestOpen_11 f_Mo_35 rfl (by first | exact hM.1 | exact hM.s rfl | assumption) (hM.r rfl) ?_
      refine x_iload_n d_Mo_lowestOpen_14 rfl rfl ?_
      refine x_iald d_Mo_lowestOpen_15 (by first | exact hM.1 | exact hM.s rfl | assumption) (vp_in_nI (show i < 48 by omega) (by decide)) ?_
      rw [nI_clamp (by omega)]
      refine x_bipush (v := 8) d_Mo_lowestOpen_16 (by decide) ?_
      refine x_icmp_ne (tgt := 23) d_Mo_lowestOpen_18 (by decide) (fun c18 => ?_) (fun c18 => ?_)
      · refine x_iinc (v := nI (i + 1)) d_Mo_lowestOpen_23 rfl (nI_1 i) rfl ?_
        refine x_goto (tgt := 2) d_Mo_lowestOpen_26 (by decide) ?_
        exact Wq.fg (ih (i + 1) (by omega) (by omega) (by rw [hr, lowO, if_neg c18] at hr0; rw [show N - (i + 1) = r by omega]; exact hr0)) ⟨rfl, rfl, trivial⟩
      · refine x_iload_n d_Mo_lowestOpen_21 rfl rfl ?_
        exact x_ireturn d_Mo_lowestOpen_22 rfl (by first | rfl | decide) (by rw [hr, lowO, if_pos c18] at hr0; rw [hr0] at hQ; exact hQ)
  refine Ct.of (lv := [some (rf G 391), none]) (ll := []) rfl rfl (EN.cat (n := 1) ⟨rfl, trivial⟩ (Nat.le_of_ble_eq_true rfl)) ?_
  refine x_iconst (v := 0) d_Mo_lowestOpen_0 (by decide) ?_
  refine x_istore_n d_Mo_lowestOpen_1 rfl rfl ?_
  exact Wq.fg (lp (N + 1) 0 (by omega) (by omega) rfl) ⟨rfl, by rw [nI_0], trivial⟩
