/-! SuperDriverModel: isTerm, takeText -/
def itm (kn : Nat → Bool) (q : Int32 → Nat) : List Int32 → Nat → Bool
  | [], m => decide (m = 0)
  | s :: l, m => kn s.toNatClampNeg && decide (0 < m) && itm kn q l (m - 1 + q s)
def knw (lim : Int32) (fn : Bool) (σ : Mem) (k : Nat) : Bool := if k < 100 then decide (nI k < lim) else decide (k < 200) || (fn && decide (0 < σ.1 393 (k - 200)))
def tA (k : Nat) : Prop := k < 8 ∨ (100 ≤ k ∧ k < 106) ∨ (200 ≤ k ∧ k < 208)
set_option maxRecDepth 10000 in
set_option maxHeartbeats 1000000 in
theorem c_Mo_isTerm {G : Ctx} {d : Nat} {Γ : List Sh} {σ : Mem} {Q : Option Value → List Sh → Mem → Prop} {lim : Int32} {fn : Bool} {zs : List Int32} {q : Int32 → Nat} (hM : MoS Γ σ) (hsz : σ.1 391 1 = nI zs.length) (hseg : seg σ 392 0 zs) (hl : zs.length ≤ 24) (hal : al tA zs) (hp : pAll σ q zs) (hQ : Q (some (.int (bI (itm (knw lim fn σ) q zs 1)))) Γ σ) : Ct G M_Mo_isTerm (d + 2) 0 0 [rf G 391, .int lim, .int (bI fn)] Γ σ Q := by
  generalize hR : itm (knw lim fn σ) q zs 1 = R at hQ
  have tl : ∀ (g : Bool) (op i5 : Int32) (x6 x7 : Option Value), (g = true → (op = 0 ↔ R = true)) → (g = false → R = false) → Wq G M_Mo_isTerm (Em G (d + 2) 0 0 Q) 0 0 138 [some (rf G 391), some (.int lim), some (.int (bI fn)), some (.int op), some (.int (bI g)), some (.int i5), x6, x7] [] [] Γ σ := by
    intro g op i5 x6 x7 h1 h0
    refine x_iload d_Mo_isTerm_138 rfl ?_
    refine x_if_eq (tgt := 151) d_Mo_isTerm_140 (by decide) (fun c140 => ?_) (fun c140 => ?_)
    · refine x_iconst (v := 0) d_Mo_isTerm_151 (by decide) ?_
      exact x_ireturn d_Mo_isTerm_152 rfl (by first | rfl | decide) (by
        first
        | (rw [h0 (bI_0 c140)] at hQ; exact hQ)
        | (rw [(h1 (bI_n0 c140)).mp c144] at hQ; exact hQ)
        | (rw [Bool.eq_false_iff.mpr (fun z => c144 ((h1 (bI_n0 c140)).mpr z))] at hQ; exact hQ))
    · refine x_iload_n d_Mo_isTerm_143 rfl rfl ?_
      refine x_if_ne (tgt := 151) d_Mo_isTerm_144 (by decide) (fun c144 => ?_) (fun c144 => ?_)
      · refine x_iconst (v := 0) d_Mo_isTerm_151 (by decide) ?_
        exact x_ireturn d_Mo_isTerm_152 rfl (by first | rfl | decide) (by
          first
          | (rw [h0 (bI_0 c140)] at hQ; exact hQ)
          | (rw [(h1 (bI_n0 c140)).mp c144] at hQ; exact hQ)
          | (rw [Bool.eq_false_iff.mpr (fun z => c144 ((h1 (bI_n0 c140)).mpr z))] at hQ; exact hQ))
      · refine x_iconst (v := 1) d_Mo_isTerm_147 (by decide) ?_
        refine x_goto (tgt := 152) d_Mo_isTerm_148 (by decide) ?_
        exact x_ireturn d_Mo_isTerm_152 rfl (by first | rfl | decide) (by
          first
          | (rw [h0 (bI_0 c140)] at hQ; exact hQ)
          | (rw [(h1 (bI_n0 c140)).mp c144] at hQ; exact hQ)
          | (rw [Bool.eq_false_iff.mpr (fun z => c144 ((h1 (bI_n0 c140)).mpr z))] at hQ; exact hQ))
  have lp : ∀ (k i : Nat) (g : Bool) (op : Int32) (x6 x7 : Option Value), i ≤ zs.length → zs.length < i + k → (g = true → ∃ o, op = nI o ∧ o ≤ 1 + 60 * i ∧ R = itm (knw lim fn σ) q (zs.drop i) o) → (g = false → R = false) → Wq G M_Mo_isTerm (Em G (d + 2) 0 0 Q) 0 0 19 [some (rf G 391), some (.int lim), some (.int (bI fn)), some (.int op), some (.int (bI g)), some (.int (nI i)), x6, x7] [] [] Γ σ := by
    intro k
    induction k with
    | zero => intro i g op x6 x7 hi hk; omega
    | succ kk ih =>
    intro i g op x6 x7 hi hk hh1 hh0
    refine x_iload d_Mo_isTerm_19 rfl ?_
    first | refine x_aload_n d_Mo_isTerm_21 rfl rfl ?_ | refine x_aloadN_n d_Mo_isTerm_21 rfl rfl ?_ | refine x_aloadE_n d_Mo_isTerm_21 rfl rfl ?_ | refine x_aloadO_n d_Mo_isTerm_21 rfl rfl ?_
    skip
    refine x_getI d_Mo_isTerm_22 f_Mo_127 rfl (by first | exact hM.1 | exact hM.s rfl | assumption) ?_
    rw [hsz]
    refine x_icmp_ge (tgt := 138) d_Mo_isTerm_25 (by decide) (fun c25 => ?_) (fun c25 => ?_)
    · refine tl g op _ _ _ (fun hg => ?_) hh0
      obtain ⟨o, e3, ho, hit⟩ := hh1 hg
      have e : i = zs.length := by have := (nI_leI (by omega) (by omega)).mp c25; omega
      rw [e, List.drop_length] at hit
      rw [hit, e3]
      show nI o = 0 ↔ decide (o = 0) = true
      rw [decide_eq_true_iff]
      refine ⟨fun z => nI_inj (show nI o = nI 0 by rw [z, nI_0]) (by omega) (by omega), fun z => by rw [z, nI_0]⟩
    · refine x_iload d_Mo_isTerm_28 rfl ?_
      refine x_if_eq (tgt := 138) d_Mo_isTerm_30 (by decide) (fun c30 => ?_) (fun c30 => ?_)
      · refine tl g op _ _ _ (fun hg => ?_) hh0
        rw [bI_0 c30] at hg
        cases hg
      · have hgt : g = true := bI_n0 c30
        obtain ⟨o, e3, ho, hit⟩ := hh1 hgt
        have hin : i < zs.length := Nat.not_le.mp fun z => c25 (nI_le z (by omega))
        obtain ⟨k, hk4, ek, hA⟩ := hal.getD hin
        have hok : okk k := by unfold tA at hA; unfold okk; omega
        have hrd : σ.1 392 i = nI k := by have := hseg i hin; rw [Nat.zero_add] at this; rw [this, ek]
        rw [drop_cons hin, ek] at hit
        have hit' : R = (knw lim fn σ k && decide (0 < o) && itm (knw lim fn σ) q (zs.drop (i + 1)) (o - 1 + q (nI k))) := by
          rw [hit]
          show (knw lim fn σ (nI k).toNatClampNeg && _ && _) = _
          rw [nI_clamp (by omega)]
        clear hit
        have hpk : mPk σ k = nI (q (nI k)) := by
          obtain ⟨k', e', _, h', _⟩ := hp.getD hin
          rw [ek] at e' h'
          have := nI_inj e' (by omega) (by unfold okk at *; omega)
          rw [this]
          rw [← this] at h' ⊢
          exact h'
        have hq60 : q (nI k) ≤ 60 := by
          obtain ⟨k', e', _, h', h6⟩ := hp.getD hin
          rw [ek] at h6
          exact h6
        generalize hkn : knw lim fn σ k = kn at hit'
        have hit := hit'
        have j130 : ∀ (g2 : Bool) (a b x7 : _) , (g2 = true → ∃ o2, a + b = nI o2 ∧ o2 ≤ 1 + 60 * (i + 1) ∧ R = itm (knw lim fn σ) q (zs.drop (i + 1)) o2) → (g2 = false → R = false) → Wq G M_Mo_isTerm (Em G (d + 2) 0 0 Q) 0 0 130 [some (rf G 391), some (.int lim), some (.int (bI fn)), some (.int op), some (.int (bI g2)), some (.int (nI i)), some (.int (nI k)), some (.int x7)] [] [.int b, .int a] Γ σ := by
          intro g2 a b x7 hh1 hh0
          refine x_iadd d_Mo_isTerm_130 ?_
          refine x_istore_n d_Mo_isTerm_131 rfl rfl ?_
          refine x_iinc (v := nI (i + 1)) d_Mo_isTerm_132 rfl (nI_1 i) rfl ?_
          refine x_goto (tgt := 19) d_Mo_isTerm_135 (by decide) ?_
          exact Wq.fg (ih (i + 1) g2 _ (some (.int (nI k))) (some (.int x7)) (by omega) (by omega) hh1 hh0) ⟨rfl, rfl, rfl, rfl, rfl, rfl, rfl, rfl, trivial⟩
        have j110 : ∀ (y : Int32), y = bI (kn && decide (0 < o)) → Wq G M_Mo_isTerm (Em G (d + 2) 0 0 Q) 0 0 110 [some (rf G 391), some (.int lim), some (.int (bI fn)), some (.int op), some (.int (bI g)), some (.int (nI i)), some (.int (nI k)), some (.int (bI kn))] [] [.int y] Γ σ := by
          intro y hy
          subst hy
          refine x_istore d_Mo_isTerm_110 rfl ?_
          refine x_iload_n d_Mo_isTerm_112 rfl rfl ?_
          refine x_iconst (v := 1) d_Mo_isTerm_113 (by decide) ?_
          refine x_isub d_Mo_isTerm_114 ?_
          refine x_iload d_Mo_isTerm_115 rfl ?_
          refine x_if_eq (tgt := 129) d_Mo_isTerm_117 (by decide) (fun c117 => ?_) (fun c117 => ?_)
          · refine x_iconst (v := 0) d_Mo_isTerm_129 (by decide) ?_
            refine j130 (kn && decide (0 < o)) _ _ _ (fun hh => ?_) (fun hh => ?_)
            · obtain ⟨z1, z2⟩ := Bool.and_eq_true_iff.mp hh
              have ho := of_decide_eq_true z2
              first
              | exact absurd (bI_0 c117) (by rw [z1]; decide)
              | (refine ⟨o - 1 + q (nI k), ?_, by omega, ?_⟩
                 · rw [e3, hpk, nI_m1a ho]
                 · rw [hit, z1, z2, Bool.true_and, Bool.true_and])
            · rw [hit, hh, Bool.false_and]
          · first | refine x_aload_n d_Mo_isTerm_120 rfl rfl ?_ | refine x_aloadN_n d_Mo_isTerm_120 rfl rfl ?_ | refine x_aloadE_n d_Mo_isTerm_120 rfl rfl ?_ | refine x_aloadO_n d_Mo_isTerm_120 rfl rfl ?_
            skip
            refine x_iload d_Mo_isTerm_121 rfl ?_
            refine x_callV1 d_Mo_isTerm_123 k_Mo_partsOf l_Mo_124 v_Mo_partsOf rfl s_Mo_partsOf (by first | exact hM.1 | exact hM.s rfl | assumption) RoomE.m (Nat.le_of_ble_eq_true rfl) (c_Mo_partsOf hM hok ?_)
            refine x_goto (tgt := 130) d_Mo_isTerm_126 (by decide) ?_
            refine j130 (kn && decide (0 < o)) _ _ _ (fun hh => ?_) (fun hh => ?_)
            · obtain ⟨z1, z2⟩ := Bool.and_eq_true_iff.mp hh
              have ho := of_decide_eq_true z2
              first
              | exact absurd (bI_0 c117) (by rw [z1]; decide)
              | (refine ⟨o - 1 + q (nI k), ?_, by omega, ?_⟩
                 · rw [e3, hpk, nI_m1a ho]
                 · rw [hit, z1, z2, Bool.true_and, Bool.true_and])
            · rw [hit, hh, Bool.false_and]
        have j94 : ∀ (y : Int32), y = bI kn → Wq G M_Mo_isTerm (Em G (d + 2) 0 0 Q) 0 0 94 [some (rf G 391), some (.int lim), some (.int (bI fn)), some (.int op), some (.int (bI g)), some (.int (nI i)), some (.int (nI k)), x7] [] [.int y] Γ σ := by
          intro y hy
          subst hy
          refine x_istore d_Mo_isTerm_94 rfl ?_
          refine x_iload d_Mo_isTerm_96 rfl ?_
          refine x_if_eq (tgt := 109) d_Mo_isTerm_98 (by decide) (fun c98 => ?_) (fun c98 => ?_)
          · refine x_iconst (v := 0) d_Mo_isTerm_109 (by decide) ?_
            refine j110 _ ?_
            first
            | (rw [bI_0 c98]; rfl)
            | (rw [bI_n0 c98, decide_eq_false (fun z => by rw [e3] at c102; exact nI_nle z (by omega) c102)]; rfl)
            | (rw [bI_n0 c98, decide_eq_true (Nat.pos_of_ne_zero (fun z => c102 (by rw [e3, z]; decide)))]; rfl)
          · refine x_iload_n d_Mo_isTerm_101 rfl rfl ?_
            refine x_if_le (tgt := 109) d_Mo_isTerm_102 (by decide) (fun c102 => ?_) (fun c102 => ?_)
            · refine x_iconst (v := 0) d_Mo_isTerm_109 (by decide) ?_
              refine j110 _ ?_
              first
              | (rw [bI_0 c98]; rfl)
              | (rw [bI_n0 c98, decide_eq_false (fun z => by rw [e3] at c102; exact nI_nle z (by omega) c102)]; rfl)
              | (rw [bI_n0 c98, decide_eq_true (Nat.pos_of_ne_zero (fun z => c102 (by rw [e3, z]; decide)))]; rfl)
            · refine x_iconst (v := 1) d_Mo_isTerm_105 (by decide) ?_
              refine x_goto (tgt := 110) d_Mo_isTerm_106 (by decide) ?_
              refine j110 _ ?_
              first
              | (rw [bI_0 c98]; rfl)
              | (rw [bI_n0 c98, decide_eq_false (fun z => by rw [e3] at c102; exact nI_nle z (by omega) c102)]; rfl)
              | (rw [bI_n0 c98, decide_eq_true (Nat.pos_of_ne_zero (fun z => c102 (by rw [e3, z]; decide)))]; rfl)
        first | refine x_aload_n d_Mo_isTerm_33 rfl rfl ?_ | refine x_aloadN_n d_Mo_isTerm_33 rfl rfl ?_ | refine x_aloadE_n d_Mo_isTerm_33 rfl rfl ?_ | refine x_aloadO_n d_Mo_isTerm_33 rfl rfl ?_
        refine x_getR d_Mo_isTerm_34 f_Mo_7 rfl (by first | exact hM.1 | exact hM.s rfl | assumption) (hM.r rfl) ?_
        refine x_iload d_Mo_isTerm_37 rfl ?_
        refine x_iald d_Mo_isTerm_39 (by first | exact hM.1 | exact hM.s rfl | assumption) (vp_in_nI (show i < 24 by omega) (by decide)) ?_
        rw [nI_clamp (by omega), hrd]
        refine x_istore d_Mo_isTerm_40 rfl ?_
        refine x_iload d_Mo_isTerm_42 rfl ?_
        refine x_bipush (v := 100) d_Mo_isTerm_44 (by decide) ?_
        refine x_icmp_ge (tgt := 63) d_Mo_isTerm_46 (by decide) (fun c46 => ?_) (fun c46 => ?_)
        · have h46 : 100 ≤ k := (nI_leI (by decide) (by omega)).mp (show nI 100 ≤ nI k from c46)
          refine x_iload d_Mo_isTerm_63 rfl ?_
          refine x_sipush (v := 200) d_Mo_isTerm_65 (by decide) ?_
          refine x_icmp_lt (tgt := 89) d_Mo_isTerm_68 (by decide) (fun c68 => ?_) (fun c68 => ?_)
          · refine x_iconst (v := 1) d_Mo_isTerm_89 (by decide) ?_
            refine x_goto (tgt := 94) d_Mo_isTerm_90 (by decide) ?_
            refine j94 _ ?_
            rw [← hkn]
            unfold knw
            first
            | (rw [if_pos h46, decide_eq_false (Int32.not_lt.mpr c52)]; rfl)
            | (rw [if_pos h46, decide_eq_true (Int32.not_le.mp c52)]; rfl)
            | (rw [if_neg (by omega), decide_eq_true ((nI_ltI (by omega) (by decide)).mp (show nI k < nI 200 from c68))]; rfl)
            | (rw [if_neg (by omega), decide_eq_false (by omega), bI_0 c72]; rfl)
            | (rw [if_neg (by omega), decide_eq_false (by omega), bI_n0 c72, decide_eq_false (Int32.not_lt.mpr c86)]; rfl)
            | (rw [if_neg (by omega), decide_eq_false (by omega), bI_n0 c72, decide_eq_true (Int32.not_le.mp c86)]; rfl)
          · have h68 : 200 ≤ k := Nat.not_lt.mp fun z => c68 (show nI k < nI 200 from nI_lt z (by decide))
            refine x_iload_n d_Mo_isTerm_71 rfl rfl ?_
            refine x_if_eq (tgt := 93) d_Mo_isTerm_72 (by decide) (fun c72 => ?_) (fun c72 => ?_)
            · refine x_iconst (v := 0) d_Mo_isTerm_93 (by decide) ?_
              refine j94 _ ?_
              rw [← hkn]
              unfold knw
              first
              | (rw [if_pos h46, decide_eq_false (Int32.not_lt.mpr c52)]; rfl)
              | (rw [if_pos h46, decide_eq_true (Int32.not_le.mp c52)]; rfl)
              | (rw [if_neg (by omega), decide_eq_true ((nI_ltI (by omega) (by decide)).mp (show nI k < nI 200 from c68))]; rfl)
              | (rw [if_neg (by omega), decide_eq_false (by omega), bI_0 c72]; rfl)
              | (rw [if_neg (by omega), decide_eq_false (by omega), bI_n0 c72, decide_eq_false (Int32.not_lt.mpr c86)]; rfl)
              | (rw [if_neg (by omega), decide_eq_false (by omega), bI_n0 c72, decide_eq_true (Int32.not_le.mp c86)]; rfl)
            · first | refine x_aload_n d_Mo_isTerm_75 rfl rfl ?_ | refine x_aloadN_n d_Mo_isTerm_75 rfl rfl ?_ | refine x_aloadE_n d_Mo_isTerm_75 rfl rfl ?_ | refine x_aloadO_n d_Mo_isTerm_75 rfl rfl ?_
              refine x_getR d_Mo_isTerm_76 f_Mo_13 rfl (by first | exact hM.1 | exact hM.s rfl | assumption) (hM.r rfl) ?_
              skip
              refine x_iload d_Mo_isTerm_79 rfl ?_
              refine x_sipush (v := 200) d_Mo_isTerm_81 (by decide) ?_
              refine x_isub d_Mo_isTerm_84 ?_
              rw [nI_sub200 (by omega)]
              refine x_iald d_Mo_isTerm_85 (by first | exact hM.1 | exact hM.s rfl | assumption) (vp_in_nI (show k - 200 < 8 by unfold tA at hA; omega) (by decide)) ?_
              rw [nI_clamp (by omega)]
              refine x_if_le (tgt := 93) d_Mo_isTerm_86 (by decide) (fun c86 => ?_) (fun c86 => ?_)
              · refine x_iconst (v := 0) d_Mo_isTerm_93 (by decide) ?_
                refine j94 _ ?_
                rw [← hkn]
                unfold knw
                first
                | (rw [if_pos h46, decide_eq_false (Int32.not_lt.mpr c52)]; rfl)
                | (rw [if_pos h46, decide_eq_true (Int32.not_le.mp c52)]; rfl)
                | (rw [if_neg (by omega), decide_eq_true ((nI_ltI (by omega) (by decide)).mp (show nI k < nI 200 from c68))]; rfl)
                | (rw [if_neg (by omega), decide_eq_false (by omega), bI_0 c72]; rfl)
                | (rw [if_neg (by omega), decide_eq_false (by omega), bI_n0 c72, decide_eq_false (Int32.not_lt.mpr c86)]; rfl)
                | (rw [if_neg (by omega), decide_eq_false (by omega), bI_n0 c72, decide_eq_true (Int32.not_le.mp c86)]; rfl)
              · refine x_iconst (v := 1) d_Mo_isTerm_89 (by decide) ?_
                refine x_goto (tgt := 94) d_Mo_isTerm_90 (by decide) ?_
                refine j94 _ ?_
                rw [← hkn]
                unfold knw
                first
                | (rw [if_pos h46, decide_eq_false (Int32.not_lt.mpr c52)]; rfl)
                | (rw [if_pos h46, decide_eq_true (Int32.not_le.mp c52)]; rfl)
                | (rw [if_neg (by omega), decide_eq_true ((nI_ltI (by omega) (by decide)).mp (show nI k < nI 200 from c68))]; rfl)
                | (rw [if_neg (by omega), decide_eq_false (by omega), bI_0 c72]; rfl)
                | (rw [if_neg (by omega), decide_eq_false (by omega), bI_n0 c72, decide_eq_false (Int32.not_lt.mpr c86)]; rfl)
                | (rw [if_neg (by omega), decide_eq_false (by omega), bI_n0 c72, decide_eq_true (Int32.not_le.mp c86)]; rfl)
        · have h46 : k < 100 := Nat.not_le.mp fun z => c46 (show nI 100 ≤ nI k from nI_le z (by omega))
          refine x_iload d_Mo_isTerm_49 rfl ?_
          refine x_iload_n d_Mo_isTerm_51 rfl rfl ?_
          refine x_icmp_ge (tgt := 59) d_Mo_isTerm_52 (by decide) (fun c52 => ?_) (fun c52 => ?_)
          · refine x_iconst (v := 0) d_Mo_isTerm_59 (by decide) ?_
            refine x_goto (tgt := 94) d_Mo_isTerm_60 (by decide) ?_
            refine j94 _ ?_
            rw [← hkn]
            unfold knw
            first
            | (rw [if_pos h46, decide_eq_false (Int32.not_lt.mpr c52)]; rfl)
            | (rw [if_pos h46, decide_eq_true (Int32.not_le.mp c52)]; rfl)
            | (rw [if_neg (by omega), decide_eq_true ((nI_ltI (by omega) (by decide)).mp (show nI k < nI 200 from c68))]; rfl)
            | (rw [if_neg (by omega), decide_eq_false (by omega), bI_0 c72]; rfl)
            | (rw [if_neg (by omega), decide_eq_false (by omega), bI_n0 c72, decide_eq_false (Int32.not_lt.mpr c86)]; rfl)
            | (rw [if_neg (by omega), decide_eq_false (by omega), bI_n0 c72, decide_eq_true (Int32.not_le.mp c86)]; rfl)
          · refine x_iconst (v := 1) d_Mo_isTerm_55 (by decide) ?_
            refine x_goto (tgt := 94) d_Mo_isTerm_56 (by decide) ?_
            refine j94 _ ?_
            rw [← hkn]
            unfold knw
            first
            | (rw [if_pos h46, decide_eq_false (Int32.not_lt.mpr c52)]; rfl)
            | (rw [if_pos h46, decide_eq_true (Int32.not_le.mp c52)]; rfl)
            | (rw [if_neg (by omega), decide_eq_true ((nI_ltI (by omega) (by decide)).mp (show nI k < nI 200 from c68))]; rfl)
            | (rw [if_neg (by omega), decide_eq_false (by omega), bI_0 c72]; rfl)
            | (rw [if_neg (by omega), decide_eq_false (by omega), bI_n0 c72, decide_eq_false (Int32.not_lt.mpr c86)]; rfl)
            | (rw [if_neg (by omega), decide_eq_false (by omega), bI_n0 c72, decide_eq_true (Int32.not_le.mp c86)]; rfl)
  refine Ct.of (lv := [some (rf G 391), some (.int lim), some (.int (bI fn)), none, none, none, none, none]) (ll := []) rfl rfl (EN.cat (n := 5) ⟨rfl, rfl, rfl, trivial⟩ (Nat.le_of_ble_eq_true rfl)) ?_
  refine x_iconst (v := 1) d_Mo_isTerm_0 (by decide) ?_
  refine x_istore_n d_Mo_isTerm_1 rfl rfl ?_
  first | refine x_aload_n d_Mo_isTerm_2 rfl rfl ?_ | refine x_aloadN_n d_Mo_isTerm_2 rfl rfl ?_ | refine x_aloadE_n d_Mo_isTerm_2 rfl rfl ?_ | refine x_aloadO_n d_Mo_isTerm_2 rfl rfl ?_
  refine x_getI d_Mo_isTerm_3 f_Mo_127 rfl (by first | exact hM.1 | exact hM.s rfl | assumption) ?_
  rw [hsz]
  refine x_if_le (tgt := 13) d_Mo_isTerm_6 (by decide) (fun c6 => ?_) (fun c6 => ?_)
  · refine x_iconst (v := 0) d_Mo_isTerm_13 (by decide) ?_
    refine x_istore d_Mo_isTerm_14 rfl ?_
    refine x_iconst (v := 0) d_Mo_isTerm_16 (by decide) ?_
    refine x_istore d_Mo_isTerm_17 rfl ?_
    first
    | exact Wq.fg (lp (zs.length + 1) 0 false 1 none none (by omega) (by omega) (fun z => by cases z) (fun _ => by
        have e : zs = [] := List.eq_nil_of_length_eq_zero (Nat.eq_zero_of_not_pos fun z => nI_nle z (by omega) c6)
        rw [← hR, e]; rfl)) ⟨rfl, rfl, rfl, rfl, rfl, by rw [nI_0], trivial⟩
    | exact Wq.fg (lp (zs.length + 1) 0 true 1 none none (by omega) (by omega) (fun _ => ⟨1, rfl, by omega, hR.symm⟩) (fun z => by cases z)) ⟨rfl, rfl, rfl, rfl, rfl, by rw [nI_0], trivial⟩
  · refine x_iconst (v := 1) d_Mo_isTerm_9 (by decide) ?_
    refine x_goto (tgt := 14) d_Mo_isTerm_10 (by decide) ?_
    refine x_istore d_Mo_isTerm_14 rfl ?_
    refine x_iconst (v := 0) d_Mo_isTerm_16 (by decide) ?_
    refine x_istore d_Mo_isTerm_17 rfl ?_
    first
    | exact Wq.fg (lp (zs.length + 1) 0 false 1 none none (by omega) (by omega) (fun z => by cases z) (fun _ => by
        have e : zs = [] := List.eq_nil_of_length_eq_zero (Nat.eq_zero_of_not_pos fun z => nI_nle z (by omega) c6)
        rw [← hR, e]; rfl)) ⟨rfl, rfl, rfl, rfl, rfl, by rw [nI_0], trivial⟩
    | exact Wq.fg (lp (zs.length + 1) 0 true 1 none none (by omega) (by omega) (fun _ => ⟨1, rfl, by omega, hR.symm⟩) (fun z => by cases z)) ⟨rfl, rfl, rfl, rfl, rfl, by rw [nI_0], trivial⟩
set_option maxRecDepth 10000 in
set_option maxHeartbeats 1000000 in
theorem c_Mo_takeText {G : Ctx} {d : Nat} {Γ : List Sh} {σ : Mem} {Q : Option Value → List Sh → Mem → Prop} {c N a : Nat} {zs : List Int32} (hM : MoS Γ σ) (hs : Γ[c]? = some (1, N)) (h1 : c ≠ 391) (h2 : c ≠ 392) (hsz : σ.1 391 1 = nI zs.length) (hseg : seg σ 392 0 zs) (hl : zs.length ≤ 24) (hN : a + zs.length ≤ N) (hN2 : N ≤ 30000) (hQ : ∀ τ, FrI [c] σ τ → seg τ c a zs → (∀ j, j < a ∨ a + zs.length ≤ j → τ.1 c j = σ.1 c j) → Q (some (.int (nI zs.length))) Γ (wI τ 391 1 0)) : Ct G M_Mo_takeText d 0 0 [rf G 391, rf G c, .int (nI a)] Γ σ Q := by
  have lp : ∀ (k i : Nat) (τ : Mem), i ≤ zs.length → zs.length < i + k → FrI [c] σ τ → (∀ j, j < i → τ.1 c (a + j) = zs.getD j (-1)) → (∀ j, j < a ∨ a + zs.length ≤ j → τ.1 c j = σ.1 c j) → Wq G M_Mo_takeText (Em G d 0 0 Q) 0 0 2 [some (rf G 391), some (rf G c), some (.int (nI a)), some (.int (nI i))] [] [] Γ τ := by
    intro k
    induction k with
    | zero => intro i τ hi hk; omega
    | succ k ih =>
    intro i τ hi hk hf ho1 ho2
    have hM := hM.fr hf
    refine x_iload_n d_Mo_takeText_2 rfl rfl ?_
    first | refine x_aload_n d_Mo_takeText_3 rfl rfl ?_ | refine x_aloadN_n d_Mo_takeText_3 rfl rfl ?_ | refine x_aloadE_n d_Mo_takeText_3 rfl rfl ?_ | refine x_aloadO_n d_Mo_takeText_3 rfl rfl ?_
    refine x_getI d_Mo_takeText_4 f_Mo_127 rfl (by first | exact hM.1 | exact hM.s rfl | assumption) ?_
    rw [hf.2 _ (by simp; exact fun z => h1 z.symm), hsz]
    refine x_icmp_ge (tgt := 27) d_Mo_takeText_7 (by decide) (fun c7 => ?_) (fun c7 => ?_)
    · have e : i = zs.length := by have := (nI_leI (by omega) (by omega)).mp c7; omega
      subst e
      first | refine x_aload_n d_Mo_takeText_27 rfl rfl ?_ | refine x_aloadN_n d_Mo_takeText_27 rfl rfl ?_ | refine x_aloadE_n d_Mo_takeText_27 rfl rfl ?_ | refine x_aloadO_n d_Mo_takeText_27 rfl rfl ?_
      refine x_getI d_Mo_takeText_28 f_Mo_127 rfl (by first | exact hM.1 | exact hM.s rfl | assumption) ?_
      rw [hf.2 _ (by simp; exact fun z => h1 z.symm), hsz]
      refine x_istore_n d_Mo_takeText_31 rfl rfl ?_
      first | refine x_aload_n d_Mo_takeText_32 rfl rfl ?_ | refine x_aloadN_n d_Mo_takeText_32 rfl rfl ?_ | refine x_aloadE_n d_Mo_takeText_32 rfl rfl ?_ | refine x_aloadO_n d_Mo_takeText_32 rfl rfl ?_
      refine x_iconst (v := 0) d_Mo_takeText_33 (by decide) ?_
      refine x_putI d_Mo_takeText_34 (w_Mo_m_127 _) rfl (by first | rfl | decide) (by first | rfl | decide) (by first | exact hM.1 | exact hM.s rfl | assumption) ?_
      refine x_iload_n d_Mo_takeText_37 rfl rfl ?_
      exact x_ireturn d_Mo_takeText_38 rfl (by first | rfl | decide) (hQ τ hf (fun j hj => ho1 j hj) ho2)
    · have hin : i < zs.length := Nat.not_le.mp fun z => c7 (nI_le z (by omega))
      first | refine x_aload_n d_Mo_takeText_10 rfl rfl ?_ | refine x_aloadN_n d_Mo_takeText_10 rfl rfl ?_ | refine x_aloadE_n d_Mo_takeText_10 rfl rfl ?_ | refine x_aloadO_n d_Mo_takeText_10 rfl rfl ?_
      refine x_iload_n d_Mo_takeText_11 rfl rfl ?_
      refine x_iload_n d_Mo_takeText_12 rfl rfl ?_
      refine x_iadd d_Mo_takeText_13 ?_
      first | rw [nI_add] | rw [nI_1] | skip
      first | refine x_aload_n d_Mo_takeText_14 rfl rfl ?_ | refine x_aloadN_n d_Mo_takeText_14 rfl rfl ?_ | refine x_aloadE_n d_Mo_takeText_14 rfl rfl ?_ | refine x_aloadO_n d_Mo_takeText_14 rfl rfl ?_
      refine x_getR d_Mo_takeText_15 f_Mo_7 rfl (by first | exact hM.1 | exact hM.s rfl | assumption) (hM.r rfl) ?_
      refine x_iload_n d_Mo_takeText_18 rfl rfl ?_
      refine x_iald d_Mo_takeText_19 (by exact hM.s rfl) (vp_in_nI (show i < 24 by omega) (by decide)) ?_
      rw [nI_clamp (by omega), hf.2 _ (by simp; exact fun z => h2 z.symm)]
      refine x_iast d_Mo_takeText_20 (by exact hs) (vp_in_nI (show a + i < N by omega) (by omega)) ?_
      rw [nI_clamp (by omega)]
      refine x_iinc (v := nI (i + 1)) d_Mo_takeText_21 rfl (nI_1 i) rfl ?_
      refine x_goto (tgt := 2) d_Mo_takeText_24 (by decide) ?_
      exact Wq.fg (ih (i + 1) _ (by omega) (by omega) (hf.put (by simp)) (fun j hj => by
        by_cases e : j = i
        · rw [e, wI_s]
          have := hseg i hin
          rw [Nat.zero_add] at this
          exact this
        · rw [wI_j (by omega)]
          exact ho1 j (by omega)) (fun j hj => by
        rw [wI_j (by omega)]
        exact ho2 j (by omega))) ⟨rfl, rfl, rfl, rfl, trivial⟩
  refine Ct.of (lv := [some (rf G 391), some (rf G c), some (.int (nI a)), none]) (ll := []) rfl rfl (EN.cat (n := 1) ⟨rfl, rfl, rfl, trivial⟩ (Nat.le_of_ble_eq_true rfl)) ?_
  refine x_iconst (v := 0) d_Mo_takeText_0 (by decide) ?_
  refine x_istore_n d_Mo_takeText_1 rfl rfl ?_
  exact Wq.fg (lp (zs.length + 1) 0 σ (by omega) (by omega) FrI.rf (fun j hj => absurd hj (Nat.not_lt_zero _)) (fun _ _ => rfl)) ⟨rfl, rfl, rfl, by rw [nI_0], trivial⟩
