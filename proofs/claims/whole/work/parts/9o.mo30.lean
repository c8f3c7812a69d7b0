/-! SuperDriverModel: bodyOf and unfold for the residual program -/
theorem rcall {pt0 : Nat → Int32} {cs0 : Nat → Bool} {σ : Mem} {X : CS} {T : TS} {zs : List Int32} {a : Nat} (hO : trO σ X pt0 cs0 T) (hS : SW (kP X) (kC X)) (htm : tmq (nP (sgP (kP X))) (rA0 T) zs) (ha : a < zs.length) (hC : isC (zs.getD a (-1)) = true) (hnx : (sgC (kC X) (zs.getD a (-1)) && isC (zs.getD (a + 1) (-1))) = false) :
    (zs.getD a (-1) = nI 400 ∧ rNode (kR X) (zs.getD a (-1)) (caf (kC X) zs a) = none ∧ kC X 400 = false) ∨ ∃ m, m < tN T ∧ fnT T m = true ∧ zs.getD a (-1) = nI (300 + m) ∧
      ((kd T m = 3 ∧ kC X (300 + m) = false ∧ caf (kC X) zs a = -1 ∧ ∃ b, Ch T m b 1 ∧ vsub (tmn T b) (tmn T m) ∧ rNode (kR X) (zs.getD a (-1)) (caf (kC X) zs a) = some b) ∨
       (kd T m = 4 ∧ kC X (300 + m) = true ∧ a + 1 < zs.length ∧ ∃ c b k, c < 6 ∧ zs.getD (a + 1) (-1) = nI (100 + c) ∧ caf (kC X) zs a = nI c ∧ Ch T m b k ∧ EV (sgP pt0) T m b k ∧ ((rNode (kR X) (zs.getD a (-1)) (caf (kC X) zs a) = none ∧ ∀ i, i < k → (tD T (b + i)).1 11 ≠ nI c) ∨ ∃ i, i < k ∧ rNode (kR X) (zs.getD a (-1)) (caf (kC X) zs a) = some (b + i) ∧ (tD T (b + i)).1 11 = nI c ∧ ∀ i', i' < i → (tD T (b + i')).1 11 ≠ nI c))) := by
  obtain ⟨h1, hW, hG, h8, hP, hcs, hI, hR, hF, hrs⟩ := hO
  have h48 := hW.1.1
  obtain ⟨j, hj, ej, hA⟩ := htm.2.getD ha
  have hTE := hI.1
  rcases hA with hA | ⟨m, hm, hf, rfl⟩ | rfl
  · rw [ej, isC_n (by omega)] at hC
    have := of_decide_eq_true hC
    omega
  · right
    refine ⟨m, hm, hf, ej, ?_⟩
    have hg : tGet (kR X) (zs.getD a (-1) - 300) = some m := by
      rw [ej, nI_sub300 (by omega), Nat.add_sub_cancel_left, tGet_nI (by omega), hTE.1, if_pos hm]
    have hfl : ¬ (tD (kR X) m).1 10 = 0 := by rw [hI.2.1 m hm, hf]; decide
    have hsg : sgC (kC X) (zs.getD a (-1)) = kC X (300 + m) := by rw [ej, sgC_n (by omega)]
    have hN : rNode (kR X) (zs.getD a (-1)) (caf (kC X) zs a) = rBelow (kR X) m (caf (kC X) zs a) := by
      unfold rNode
      rw [hg]
      simp only []
      rw [if_neg hfl]
    have hck := hcs m hm hf
    rcases fnT_34 hW hm hf with k3 | k4
    · left
      rw [k3] at hck
      have hcf : kC X (300 + m) = false := hck.trans (by decide)
      have ec : caf (kC X) zs a = -1 := by
        unfold caf
        rw [hsg, hcf, Bool.false_and, if_neg (by decide)]
      obtain ⟨b, c, hCh, hEV⟩ := (hW.2.2 m hm).2.2 (fun z => by cases z) (Or.inr (Or.inl k3))
      obtain ⟨e1, e2⟩ := hEV.2.1 k3
      subst e1
      refine ⟨k3, hcf, ec, b, hCh, e2, ?_⟩
      rw [hN, ec]
      unfold rBelow
      rw [if_pos rfl]
      have : (tD (kR X) m).2.1 4 = lkn T m 4 := hTE.lk m 4
      rw [this, hCh.2.2.1, if_neg (by decide)]
    · right
      rw [k4] at hck
      have hct : kC X (300 + m) = true := hck.trans (by decide)
      have ha1 := cs_nx hS.ok htm.1 ha (by rw [hsg]; exact hct)
      rw [hsg, hct, Bool.true_and] at hnx
      obtain ⟨j1, hj1, ej1, hA1⟩ := htm.2.getD ha1
      rw [ej1, isC_n (by omega)] at hnx
      have hlt := of_decide_eq_false hnx
      have hK : 100 ≤ j1 ∧ j1 < 106 := by
        rcases hA1 with z | ⟨m1, _, _, z⟩ | z
        · exact z
        · omega
        · omega
      obtain ⟨c, rfl⟩ : ∃ c, j1 = 100 + c := ⟨j1 - 100, by omega⟩
      have hc6 : c < 6 := by omega
      have ec : caf (kC X) zs a = nI c := by
        unfold caf
        rw [hsg, hct, ej1, isK_n (by omega), decide_eq_true hK]
        show nI (100 + c) - 100 = nI c
        rw [nI_sub100 (by omega), Nat.add_sub_cancel_left]
      obtain ⟨b, k, hCh, hEV⟩ := (hW.2.2 m hm).2.2 (fun z => by cases z) (Or.inr (Or.inr (Or.inl k4)))
      refine ⟨k4, hct, ha1, c, b, k, hc6, ej1, ec, hCh, hEV, ?_⟩
      have e4 : rNode (kR X) (zs.getD a (-1)) (caf (kC X) zs a) = clB (kR X) (nI c) 48 (if 0 < k then some (b + 0) else none) := by
        rw [hN, ec]
        unfold rBelow clBel
        rw [if_neg (nI_nm1 (by omega))]
        have : (tD (kR X) m).2.1 4 = lkn (kR X) m 4 := rfl
        rw [this, Ch4 (hTE.ch hCh)]
      have e11 : ∀ q, (tD (kR X) q).1 11 = (tD T q).1 11 := fun q => (hTE.2.2.2 q).1 11 (by decide)
      rw [e4]
      rcases clB_ch (c := nI c) (hTE.ch hCh) k 0 48 (by omega) (by have := hCh.2.1; omega) with ⟨z1, z2⟩ | ⟨i, z1, z2, z3, z4, z5⟩
      · exact Or.inl ⟨z1, fun i hi => by rw [← e11]; exact z2 i (by omega) hi⟩
      · exact Or.inr ⟨i, z2, z3, by rw [← e11]; exact z4, fun i' hi' => by rw [← e11]; exact z5 i' (by omega) hi'⟩
  · left
    refine ⟨ej, ?_, ?_⟩
    · unfold rNode
      rw [ej, nI_sub300 (by omega), tGet_nI (by omega), hTE.1, if_neg (by omega)]
    · cases z : kC X 400 with
      | false => rfl
      | true => exact absurd rfl (hS.2.2.2.2.2 400 (by omega) z).2.1
theorem ufs_r {X : CS} {zs : List Int32} {a : Nat} (h : sgC (kC X) (zs.getD a (-1)) = true → caf (kC X) zs a ≠ -1) : ufs (kC X) (rBody (kR X)) zs a = (rNode (kR X) (zs.getD a (-1)) (caf (kC X) zs a)).isSome := by
  have e : (rBody (kR X) (zs.getD a (-1)) (caf (kC X) zs a)).isSome = (rNode (kR X) (zs.getD a (-1)) (caf (kC X) zs a)).isSome := by
    unfold rBody
    cases rNode (kR X) (zs.getD a (-1)) (caf (kC X) zs a) <;> rfl
  unfold ufs
  by_cases hs : sgC (kC X) (zs.getD a (-1)) = true
  · rw [if_pos hs, if_neg (h hs), e]
  · rw [if_neg hs, e]
def cRr (σ : Mem) (X : CS) (pt0 : Nat → Int32) (cs0 : Nat → Bool) (T : TS) (zs : List Int32) (a : Nat) : Prop := rwO σ (kP X) (kC X) zs ∧ a < zs.length ∧ isC (zs.getD a (-1)) = true ∧ (sgC (kC X) (zs.getD a (-1)) && isC (zs.getD (a + 1) (-1))) = false ∧ tmq (nP (sgP (kP X))) (rA0 T) zs ∧ trO σ X pt0 cs0 T ∧ SW (kP X) (kC X)
set_option maxRecDepth 10000 in
set_option maxHeartbeats 1000000 in
theorem c_Mo_bodyOf_r {G : Ctx} {d : Nat} {Γ : List Sh} {σ : Mem} {Q : Option Value → List Sh → Mem → Prop} {X : CS} {pt0 : Nat → Int32} {cs0 : Nat → Bool} {T : TS} {zs : List Int32} {a : Nat} (hM : MoS Γ σ) (hC : cRr σ X pt0 cs0 T zs a) (hQ1 : rNode (kR X) (zs.getD a (-1)) (caf (kC X) zs a) = none → Q (some (.int (-1))) Γ σ) (hQ2 : ∀ k, rNode (kR X) (zs.getD a (-1)) (caf (kC X) zs a) = some k → Q (some (.int (nI k))) Γ σ) : Ct G M_Mo_bodyOf (d + 1) 0 0 [rf G 391, .int (nI a)] Γ σ Q := by
  obtain ⟨hR, ha, hcc, hnx, htm, hO, hS⟩ := id hC
  have hzl := hR.2.2.1
  have hrow : ∀ i, i < zs.length → σ.1 415 i = zs.getD i (-1) := fun i hi => by have := hR.2.1 i hi; rw [Nat.zero_add] at this; exact this
  obtain ⟨o1, hW, hG, h8, hP, hcs, hI, hRt, hF, hrs⟩ := id hO
  have h48 := hW.1.1
  rcases rcall hO hS htm ha hcc hnx with ⟨ek, e1, -⟩ | ⟨m, hm, hf, ek, hk⟩
  · refine Ct.of (lv := [some (rf G 391), some (.int (nI a)), none, none, none]) (ll := []) rfl rfl (EN.cat (n := 3) ⟨rfl, rfl, trivial⟩ (Nat.le_of_ble_eq_true rfl)) ?_
    first | refine x_aload_n d_Mo_bodyOf_0 rfl rfl ?_ | refine x_aloadN_n d_Mo_bodyOf_0 rfl rfl ?_ | refine x_aloadE_n d_Mo_bodyOf_0 rfl rfl ?_ | refine x_aloadO_n d_Mo_bodyOf_0 rfl rfl ?_
    refine x_getR d_Mo_bodyOf_1 f_Mo_80 rfl (by first | exact hM.1 | exact hM.s rfl | assumption) (hM.r rfl) ?_
    refine x_iload_n d_Mo_bodyOf_4 rfl rfl ?_
    refine x_iald d_Mo_bodyOf_5 (by first | exact hM.1 | exact hM.s rfl | assumption) (vp_in_nI (show a < 20400 by omega) (by decide)) ?_
    rw [nI_clamp (by omega), hrow a ha, ek]
    refine x_istore_n d_Mo_bodyOf_6 rfl rfl ?_
    refine x_iload_n d_Mo_bodyOf_7 rfl rfl ?_
    refine x_sipush (v := 400) d_Mo_bodyOf_8 (by decide) ?_
    refine x_icmp_ne (tgt := 16) d_Mo_bodyOf_11 (by decide) (fun c11 => ?_) (fun c11 => ?_)
    · exact absurd rfl c11
    · refine x_iconst (v := -1) d_Mo_bodyOf_14 (by decide) ?_
      exact x_ireturn d_Mo_bodyOf_15 rfl (by first | rfl | decide) (hQ1 e1)
  · have hRC := (hRt.2 m hm).2
    rcases hk with ⟨k3, -, -, b, hCh, -, e1⟩ | ⟨k4, -, ha1, c, b, k, hc6, ej1, ec, hCh, hEV, hres⟩
    · have h5 : σ.1 405 m = nI b := (hRC (Or.inr (Or.inl k3)) b 1 hCh).2.1 (by omega)
      refine Ct.of (lv := [some (rf G 391), some (.int (nI a)), none, none, none]) (ll := []) rfl rfl (EN.cat (n := 3) ⟨rfl, rfl, trivial⟩ (Nat.le_of_ble_eq_true rfl)) ?_
      first | refine x_aload_n d_Mo_bodyOf_0 rfl rfl ?_ | refine x_aloadN_n d_Mo_bodyOf_0 rfl rfl ?_ | refine x_aloadE_n d_Mo_bodyOf_0 rfl rfl ?_ | refine x_aloadO_n d_Mo_bodyOf_0 rfl rfl ?_
      refine x_getR d_Mo_bodyOf_1 f_Mo_80 rfl (by first | exact hM.1 | exact hM.s rfl | assumption) (hM.r rfl) ?_
      refine x_iload_n d_Mo_bodyOf_4 rfl rfl ?_
      refine x_iald d_Mo_bodyOf_5 (by first | exact hM.1 | exact hM.s rfl | assumption) (vp_in_nI (show a < 20400 by omega) (by decide)) ?_
      rw [nI_clamp (by omega), hrow a ha, ek]
      refine x_istore_n d_Mo_bodyOf_6 rfl rfl ?_
      refine x_iload_n d_Mo_bodyOf_7 rfl rfl ?_
      refine x_sipush (v := 400) d_Mo_bodyOf_8 (by decide) ?_
      refine x_icmp_ne (tgt := 16) d_Mo_bodyOf_11 (by decide) (fun c11 => ?_) (fun c11 => ?_)
      · refine x_iload_n d_Mo_bodyOf_16 rfl rfl ?_
        refine x_sipush (v := 300) d_Mo_bodyOf_17 (by decide) ?_
        refine x_icmp_ge (tgt := 87) d_Mo_bodyOf_20 (by decide) (fun c20 => ?_) (fun c20 => ?_)
        · refine x_iload_n d_Mo_bodyOf_87 rfl rfl ?_
          refine x_sipush (v := 300) d_Mo_bodyOf_88 (by decide) ?_
          refine x_isub d_Mo_bodyOf_91 ?_
          rw [nI_sub300 (by omega), Nat.add_sub_cancel_left]
          refine x_istore_n d_Mo_bodyOf_92 rfl rfl ?_
          first | refine x_aload_n d_Mo_bodyOf_93 rfl rfl ?_ | refine x_aloadN_n d_Mo_bodyOf_93 rfl rfl ?_ | refine x_aloadE_n d_Mo_bodyOf_93 rfl rfl ?_ | refine x_aloadO_n d_Mo_bodyOf_93 rfl rfl ?_
          refine x_getR d_Mo_bodyOf_94 f_Mo_35 rfl (by first | exact hM.1 | exact hM.s rfl | assumption) (hM.r rfl) ?_
          refine x_iload_n d_Mo_bodyOf_97 rfl rfl ?_
          refine x_iald d_Mo_bodyOf_98 (by first | exact hM.1 | exact hM.s rfl | assumption) (vp_in_nI (show m < 48 by omega) (by decide)) ?_
          rw [nI_clamp (by omega), (hRt.2 m hm).1.1, k3]
          refine x_iconst (v := 3) d_Mo_bodyOf_99 (by decide) ?_
          refine x_icmp_ne (tgt := 110) d_Mo_bodyOf_100 (by decide) (fun c100 => ?_) (fun c100 => ?_)
          · exact absurd rfl c100
          · first | refine x_aload_n d_Mo_bodyOf_103 rfl rfl ?_ | refine x_aloadN_n d_Mo_bodyOf_103 rfl rfl ?_ | refine x_aloadE_n d_Mo_bodyOf_103 rfl rfl ?_ | refine x_aloadO_n d_Mo_bodyOf_103 rfl rfl ?_
            refine x_getR d_Mo_bodyOf_104 f_Mo_50 rfl (by first | exact hM.1 | exact hM.s rfl | assumption) (hM.r rfl) ?_
            refine x_iload_n d_Mo_bodyOf_107 rfl rfl ?_
            refine x_iald d_Mo_bodyOf_108 (by first | exact hM.1 | exact hM.s rfl | assumption) (vp_in_nI (show m < 48 by omega) (by decide)) ?_
            rw [nI_clamp (by omega), h5]
            exact x_ireturn d_Mo_bodyOf_109 rfl (by first | rfl | decide) (hQ2 b e1)
        · exact absurd (show nI 300 ≤ nI (300 + m) from nI_le (by omega) (by omega)) c20
      · exact absurd (nI_inj (show nI (300 + m) = nI 400 from c11) (by omega) (by decide)) (by omega)
    · obtain ⟨h6, h5, -, -⟩ := hRC (Or.inr (Or.inr (Or.inl k4))) b k hCh
      have hk48 : b + k ≤ 48 := by have := hCh.2.1; omega
      have lp : 0 < k → ∀ (f i : Nat), i ≤ k → k < i + f → (∀ i', i' < i → (tD T (b + i')).1 11 ≠ nI c) → Wq G M_Mo_bodyOf (Em G (d + 1) 0 0 Q) 0 0 118 [some (rf G 391), some (.int (nI a)), some (.int (nI (300 + m))), some (.int (nI m)), some (.int (nI (b + i)))] [] [] Γ σ := by
        intro hk0 f
        induction f with
        | zero => intro i hi hf; omega
        | succ f ih =>
        intro i hi hf hno
        refine x_iload d_Mo_bodyOf_118 rfl ?_
        first | refine x_aload_n d_Mo_bodyOf_120 rfl rfl ?_ | refine x_aloadN_n d_Mo_bodyOf_120 rfl rfl ?_ | refine x_aloadE_n d_Mo_bodyOf_120 rfl rfl ?_ | refine x_aloadO_n d_Mo_bodyOf_120 rfl rfl ?_
        refine x_getR d_Mo_bodyOf_121 f_Mo_50 rfl (by first | exact hM.1 | exact hM.s rfl | assumption) (hM.r rfl) ?_
        refine x_iload_n d_Mo_bodyOf_124 rfl rfl ?_
        refine x_iald d_Mo_bodyOf_125 (by first | exact hM.1 | exact hM.s rfl | assumption) (vp_in_nI (show m < 48 by omega) (by decide)) ?_
        rw [nI_clamp (by omega), h5 (by omega)]
        first | refine x_aload_n d_Mo_bodyOf_126 rfl rfl ?_ | refine x_aloadN_n d_Mo_bodyOf_126 rfl rfl ?_ | refine x_aloadE_n d_Mo_bodyOf_126 rfl rfl ?_ | refine x_aloadO_n d_Mo_bodyOf_126 rfl rfl ?_
        refine x_getR d_Mo_bodyOf_127 f_Mo_53 rfl (by first | exact hM.1 | exact hM.s rfl | assumption) (hM.r rfl) ?_
        refine x_iload_n d_Mo_bodyOf_130 rfl rfl ?_
        refine x_iald d_Mo_bodyOf_131 (by first | exact hM.1 | exact hM.s rfl | assumption) (vp_in_nI (show m < 48 by omega) (by decide)) ?_
        rw [nI_clamp (by omega), h6]
        refine x_iadd d_Mo_bodyOf_132 ?_
        rw [nI_add]
        refine x_icmp_ge (tgt := 163) d_Mo_bodyOf_133 (by decide) (fun c133 => ?_) (fun c133 => ?_)
        · have hik : ¬ i < k := fun z => by
            have := (nI_leI (by omega) (by omega)).mp c133
            omega
          refine x_iconst (v := -1) d_Mo_bodyOf_163 (by decide) ?_
          refine x_ireturn d_Mo_bodyOf_164 rfl (by first | rfl | decide) (hQ1 ?_)
          rcases hres with z | ⟨i0, z1, z2, z3, z4⟩
          · exact z.1
          · exact absurd z3 (hno i0 (by omega))
        · have hik : i < k := Nat.not_le.mp fun z => c133 (nI_le (by omega) (by omega))
          have hbN : b + i < 48 := by omega
          obtain ⟨cl, w, hcl, e11, -⟩ := hEV.2.2.1 k4 i hik
          have e8 := ((hRC (Or.inr (Or.inr (Or.inl k4))) b k hCh).2.2.2 k4 i hik cl hcl e11).1
          first | refine x_aload_n d_Mo_bodyOf_136 rfl rfl ?_ | refine x_aloadN_n d_Mo_bodyOf_136 rfl rfl ?_ | refine x_aloadE_n d_Mo_bodyOf_136 rfl rfl ?_ | refine x_aloadO_n d_Mo_bodyOf_136 rfl rfl ?_
          refine x_getR d_Mo_bodyOf_137 f_Mo_59 rfl (by first | exact hM.1 | exact hM.s rfl | assumption) (hM.r rfl) ?_
          refine x_iload d_Mo_bodyOf_140 rfl ?_
          refine x_iald d_Mo_bodyOf_142 (by first | exact hM.1 | exact hM.s rfl | assumption) (vp_in_nI (show b + i < 48 by omega) (by decide)) ?_
          rw [nI_clamp (by omega), e8]
          first | refine x_aload_n d_Mo_bodyOf_143 rfl rfl ?_ | refine x_aloadN_n d_Mo_bodyOf_143 rfl rfl ?_ | refine x_aloadE_n d_Mo_bodyOf_143 rfl rfl ?_ | refine x_aloadO_n d_Mo_bodyOf_143 rfl rfl ?_
          refine x_getR d_Mo_bodyOf_144 f_Mo_80 rfl (by first | exact hM.1 | exact hM.s rfl | assumption) (hM.r rfl) ?_
          refine x_iload_n d_Mo_bodyOf_147 rfl rfl ?_
          refine x_iconst (v := 1) d_Mo_bodyOf_148 (by decide) ?_
          refine x_iadd d_Mo_bodyOf_149 ?_
          rw [nI_1]
          refine x_iald d_Mo_bodyOf_150 (by first | exact hM.1 | exact hM.s rfl | assumption) (vp_in_nI (show a + 1 < 20400 by omega) (by decide)) ?_
          rw [nI_clamp (by omega), hrow (a + 1) ha1, ej1]
          refine x_icmp_ne (tgt := 157) d_Mo_bodyOf_151 (by decide) (fun c151 => ?_) (fun c151 => ?_)
          · refine x_iinc (v := nI (b + (i + 1))) d_Mo_bodyOf_157 rfl (nI_1 (b + i)) rfl ?_
            refine x_goto (tgt := 118) d_Mo_bodyOf_160 (by decide) ?_
            exact Wq.fg (ih (i + 1) (by omega) (by omega) (fun i' hi' => by
              by_cases e : i' = i
              · rw [e, e11]
                intro z
                have := nI_inj z (by omega) (by omega)
                exact c151 (by rw [this])
              · exact hno i' (by omega))) ⟨rfl, rfl, rfl, rfl, rfl, trivial⟩
          · refine x_iload d_Mo_bodyOf_154 rfl ?_
            have ecl : cl = c := by have := nI_inj c151 (by omega) (by omega); omega
            refine x_ireturn d_Mo_bodyOf_156 rfl (by first | rfl | decide) (hQ2 _ ?_)
            rcases hres with z | ⟨i0, z1, z2, z3, z4⟩
            · exact absurd (by rw [e11, ecl]) (z.2 i hik)
            · have : i0 = i := by
                rcases Nat.lt_trichotomy i0 i with y | y | y
                · exact absurd z3 (hno i0 y)
                · exact y
                · exact absurd (by rw [e11, ecl]) (z4 i y)
              rw [z2, this]
      have lz : k = 0 → Wq G M_Mo_bodyOf (Em G (d + 1) 0 0 Q) 0 0 118 [some (rf G 391), some (.int (nI a)), some (.int (nI (300 + m))), some (.int (nI m)), some (.int (σ.1 405 m))] [] [] Γ σ := by
        intro hk0
        refine x_iload d_Mo_bodyOf_118 rfl ?_
        first | refine x_aload_n d_Mo_bodyOf_120 rfl rfl ?_ | refine x_aloadN_n d_Mo_bodyOf_120 rfl rfl ?_ | refine x_aloadE_n d_Mo_bodyOf_120 rfl rfl ?_ | refine x_aloadO_n d_Mo_bodyOf_120 rfl rfl ?_
        refine x_getR d_Mo_bodyOf_121 f_Mo_50 rfl (by first | exact hM.1 | exact hM.s rfl | assumption) (hM.r rfl) ?_
        refine x_iload_n d_Mo_bodyOf_124 rfl rfl ?_
        refine x_iald d_Mo_bodyOf_125 (by first | exact hM.1 | exact hM.s rfl | assumption) (vp_in_nI (show m < 48 by omega) (by decide)) ?_
        rw [nI_clamp (by omega)]
        first | refine x_aload_n d_Mo_bodyOf_126 rfl rfl ?_ | refine x_aloadN_n d_Mo_bodyOf_126 rfl rfl ?_ | refine x_aloadE_n d_Mo_bodyOf_126 rfl rfl ?_ | refine x_aloadO_n d_Mo_bodyOf_126 rfl rfl ?_
        refine x_getR d_Mo_bodyOf_127 f_Mo_53 rfl (by first | exact hM.1 | exact hM.s rfl | assumption) (hM.r rfl) ?_
        refine x_iload_n d_Mo_bodyOf_130 rfl rfl ?_
        refine x_iald d_Mo_bodyOf_131 (by first | exact hM.1 | exact hM.s rfl | assumption) (vp_in_nI (show m < 48 by omega) (by decide)) ?_
        rw [nI_clamp (by omega), h6, hk0]
        refine x_iadd d_Mo_bodyOf_132 ?_
        rw [show nI 0 = 0 from nI_0, Int32.add_zero]
        refine x_icmp_ge (tgt := 163) d_Mo_bodyOf_133 (by decide) (fun c133 => ?_) (fun c133 => ?_)
        · refine x_iconst (v := -1) d_Mo_bodyOf_163 (by decide) ?_
          refine x_ireturn d_Mo_bodyOf_164 rfl (by first | rfl | decide) (hQ1 ?_)
          rcases hres with z | ⟨i0, z1, z2, z3, z4⟩
          · exact z.1
          · omega
        · exact absurd (Int32.le_refl _) c133
      refine Ct.of (lv := [some (rf G 391), some (.int (nI a)), none, none, none]) (ll := []) rfl rfl (EN.cat (n := 3) ⟨rfl, rfl, trivial⟩ (Nat.le_of_ble_eq_true rfl)) ?_
      first | refine x_aload_n d_Mo_bodyOf_0 rfl rfl ?_ | refine x_aloadN_n d_Mo_bodyOf_0 rfl rfl ?_ | refine x_aloadE_n d_Mo_bodyOf_0 rfl rfl ?_ | refine x_aloadO_n d_Mo_bodyOf_0 rfl rfl ?_
      refine x_getR d_Mo_bodyOf_1 f_Mo_80 rfl (by first | exact hM.1 | exact hM.s rfl | assumption) (hM.r rfl) ?_
      refine x_iload_n d_Mo_bodyOf_4 rfl rfl ?_
      refine x_iald d_Mo_bodyOf_5 (by first | exact hM.1 | exact hM.s rfl | assumption) (vp_in_nI (show a < 20400 by omega) (by decide)) ?_
      rw [nI_clamp (by omega), hrow a ha, ek]
      refine x_istore_n d_Mo_bodyOf_6 rfl rfl ?_
      refine x_iload_n d_Mo_bodyOf_7 rfl rfl ?_
      refine x_sipush (v := 400) d_Mo_bodyOf_8 (by decide) ?_
      refine x_icmp_ne (tgt := 16) d_Mo_bodyOf_11 (by decide) (fun c11 => ?_) (fun c11 => ?_)
      · refine x_iload_n d_Mo_bodyOf_16 rfl rfl ?_
        refine x_sipush (v := 300) d_Mo_bodyOf_17 (by decide) ?_
        refine x_icmp_ge (tgt := 87) d_Mo_bodyOf_20 (by decide) (fun c20 => ?_) (fun c20 => ?_)
        · refine x_iload_n d_Mo_bodyOf_87 rfl rfl ?_
          refine x_sipush (v := 300) d_Mo_bodyOf_88 (by decide) ?_
          refine x_isub d_Mo_bodyOf_91 ?_
          rw [nI_sub300 (by omega), Nat.add_sub_cancel_left]
          refine x_istore_n d_Mo_bodyOf_92 rfl rfl ?_
          first | refine x_aload_n d_Mo_bodyOf_93 rfl rfl ?_ | refine x_aloadN_n d_Mo_bodyOf_93 rfl rfl ?_ | refine x_aloadE_n d_Mo_bodyOf_93 rfl rfl ?_ | refine x_aloadO_n d_Mo_bodyOf_93 rfl rfl ?_
          refine x_getR d_Mo_bodyOf_94 f_Mo_35 rfl (by first | exact hM.1 | exact hM.s rfl | assumption) (hM.r rfl) ?_
          refine x_iload_n d_Mo_bodyOf_97 rfl rfl ?_
          refine x_iald d_Mo_bodyOf_98 (by first | exact hM.1 | exact hM.s rfl | assumption) (vp_in_nI (show m < 48 by omega) (by decide)) ?_
          rw [nI_clamp (by omega), (hRt.2 m hm).1.1, k4]
          refine x_iconst (v := 3) d_Mo_bodyOf_99 (by decide) ?_
          refine x_icmp_ne (tgt := 110) d_Mo_bodyOf_100 (by decide) (fun c100 => ?_) (fun c100 => ?_)
          · first | refine x_aload_n d_Mo_bodyOf_110 rfl rfl ?_ | refine x_aloadN_n d_Mo_bodyOf_110 rfl rfl ?_ | refine x_aloadE_n d_Mo_bodyOf_110 rfl rfl ?_ | refine x_aloadO_n d_Mo_bodyOf_110 rfl rfl ?_
            refine x_getR d_Mo_bodyOf_111 f_Mo_50 rfl (by first | exact hM.1 | exact hM.s rfl | assumption) (hM.r rfl) ?_
            refine x_iload_n d_Mo_bodyOf_114 rfl rfl ?_
            refine x_iald d_Mo_bodyOf_115 (by first | exact hM.1 | exact hM.s rfl | assumption) (vp_in_nI (show m < 48 by omega) (by decide)) ?_
            rw [nI_clamp (by omega)]
            refine x_istore d_Mo_bodyOf_116 rfl ?_
            by_cases hk0 : k = 0
            · exact Wq.fg (lz hk0) ⟨rfl, rfl, rfl, rfl, rfl, trivial⟩
            · exact Wq.fg (lp (by omega) (k + 1) 0 (by omega) (by omega) (fun i' hi' => by omega)) ⟨rfl, rfl, rfl, rfl, by rw [h5 (by omega)]; rfl, trivial⟩
          · exact absurd c100 (by decide)
        · exact absurd (show nI 300 ≤ nI (300 + m) from nI_le (by omega) (by omega)) c20
      · exact absurd (nI_inj (show nI (300 + m) = nI 400 from c11) (by omega) (by decide)) (by omega)
