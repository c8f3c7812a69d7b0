/-! Substitution.bind for any sign; Program.unfold -/
set_option maxRecDepth 10000 in
set_option maxHeartbeats 1000000 in
theorem c_bind2 {G : Ctx} {d : Nat} {Γ : List Sh} {σ : Mem} {Q : Option Value → List Sh → Mem → Prop} {c k rr f t m : Nat} {v : Int32} {os : List Int32} {β : Nat → Option (Nat × Nat × Nat)} (hS : isSub Γ σ c k β) (hO : isRow Γ σ rr m os) (hQ : ∀ σ', isSub Γ σ' c k (if isV v = true then upN β v.toNatClampNeg (some (rr, f, t)) else β) → Fr [c + 1, c + 2, c + 3, c + 4] σ σ' → Q none Γ σ') : Ct G M_Substitution_bind (d + 1) 0 0 [rf G c, .int v, rf G rr, .int (nI f), .int (nI t)] Γ σ Q := by
  by_cases hv : isV v = true
  · exact c_Substitution_bind hS hO hv (fun τ h1 h2 => hQ τ (by rw [if_pos hv]; exact h1) h2)
  obtain ⟨⟨s1, s2, s3, s4, s5⟩, ⟨r1, r2, r3, r4⟩, sk, sm, sv⟩ := id hS
  refine Ct.of (lv := [some (rf G c), some (.int v), some (rf G rr), some (.int (nI f)), some (.int (nI t))]) (ll := []) rfl rfl (EN.cat (n := 0) ⟨rfl, rfl, rfl, rfl, rfl, trivial⟩ (Nat.le_of_ble_eq_true rfl)) ?_
  refine x_iload_n d_Substitution_bind_0 rfl rfl ?_
  refine x_callSN1 d_Substitution_bind_1 k_SD_isVariable ln_Substitution_31 z_SD_isVariable RoomE.m (Nat.le_of_ble_eq_true rfl) (c_SD_isVariable ?_)
  refine x_if_eq (tgt := 39) d_Substitution_bind_4 (by decide) (fun c4 => ?_) (fun c4 => ?_)
  · exact x_return d_Substitution_bind_39 rfl (hQ _ (by rw [bI_0 c4, if_neg (by decide)]; exact hS) Fr.rf)
  · exact absurd (bI_n0 c4) hv
/-- where the parts begin that are bound, and how many they are -/
def up0 (cs : Nat → Bool) (zs : List Int32) (a : Nat) : Nat := if caf cs zs a = -1 then a + 1 else a + 2
def ucI (pt : Nat → Int32) (cs : Nat → Bool) (zs : List Int32) (a : Nat) : Int32 := if caf cs zs a = -1 then sgP pt (zs.getD a (-1)) else sgP pt (zs.getD a (-1)) + (pK (caf cs zs a) - 1)
theorem isK_len {zs : List Int32} {i : Nat} (h : isK (zs.getD i (-1)) = true) : i < zs.length := by
  by_cases z : i < zs.length
  · exact z
  · rw [List.getD_eq_getElem?_getD, List.getElem?_eq_none (by omega)] at h
    exact absurd h (by decide)
theorem up0_le {cs : Nat → Bool} {zs : List Int32} {a : Nat} (h : a < zs.length) : up0 cs zs a ≤ zs.length := by
  unfold up0
  split
  · exact h
  · next e =>
    have : isK (zs.getD (a + 1) (-1)) = true := by
      unfold caf at e
      split at e
      · next z => exact (Bool.and_eq_true _ _ ▸ z).2
      · exact absurd rfl e
    exact isK_len this
theorem bn_0 {P : Int32 → Int32} {zs : List Int32} {pv : Nat → Int32} {p0 r : Nat} : bn P zs pv p0 r 0 = fun _ => none := rfl
def pbOK (Γ : List Sh) (σ : Mem) (rt : Nat) (bs : List Int32) : Option Nat → Prop
  | none => bs = []
  | some rb => ∃ m bs', isRow Γ σ rb m bs' ∧ rb ≠ rt ∧ 33 ≤ rb ∧ bs = bs'.take m
theorem flat_uS {P : Int32 → Int32} {zs : List Int32} {pv : Nat → Int32} {p0 r j : Nat} {bs : List Int32} : bs.flatMap (sub1 (bn P zs pv p0 r j) (Bn P zs pv p0 j)) = bs.flatMap (uS P zs pv p0 j) := by
  congr 1
  funext s
  exact sub_uS j
set_option maxRecDepth 10000 in
set_option maxHeartbeats 1000000 in
theorem c_unfold_4 {G : Ctx} {d : Nat} {Γ : List Sh} {σ : Mem} {Q : Option Value → List Sh → Mem → Prop} {r n a rt nt k cnt : Nat} {ys ts bs : List Int32} {pt : Nat → Int32} {cs : Nat → Bool} {β : Nat → Option (Nat × Nat × Nat)} {pb : Int32 → Int32 → Option Nat} {pv : Nat → Int32} (hPr : isPr Γ σ 4 33 27 22) (hG : isSg Γ σ 27 pt cs) (hS : isSub Γ σ 22 k β) (hk : k < 1000000000) (hR : isRow Γ σ r n ys) (hT : isRow Γ σ rt nt ts) (hr : 33 ≤ r) (hrt : 33 ≤ rt) (hne : r ≠ rt) (ha : a < (ys.take n).length) (hcn : ucI pt cs (ys.take n) a = nI cnt) (hcl : cnt ≤ 1000000) (hb : ∀ (Q2 : Option Value → List Sh → Mem → Prop) (s x : Int32), Q2 (some (ov G (pb s x))) Γ σ → Ct G M_SourceProgram_bodyOf (d + 2) 0 0 [rf G 33, .int s, .int x] Γ σ Q2) (hbd : pbOK Γ σ rt bs (pb ((ys.take n).getD a (-1)) (caf cs (ys.take n) a))) (hvf : ∀ (Q2 : Option Value → List Sh → Mem → Prop) (τ : Mem) (j : Nat), j < cnt → Fr [22, 23, 24, 25, 26] σ τ → Q2 (some (.int (pv j))) Γ τ → Ct G M_SourceProgram_variableOf (d + 2) 0 0 [rf G 33, .int ((ys.take n).getD a (-1)), .int (caf cs (ys.take n) a), .int (nI j)] Γ τ Q2) (hQ : ∀ σ' β', isSub Γ σ' 22 (k + 1) β' → isRow Γ σ' rt nt (unf (sgP pt) (ys.take n) pv a (up0 cs (ys.take n) a) cnt bs) → Fr [22, 23, 24, 25, 26, rt, rt + 1] σ σ' → Q none Γ σ') : Ct G M_Program_unfold (d + 3) 0 0 [rf G 33, rf G r, .int (nI a), rf G rt] Γ σ Q := by
  obtain ⟨q1, q2, q3⟩ := id hPr
  obtain ⟨a1, a2, a3, a4, a5, a6, a7⟩ := id hR
  obtain ⟨b1, b2, b3, b4, b5, b6, b7⟩ := id hT
  obtain ⟨⟨g1, g2, g3, g4, g5, g6⟩, -⟩ := id hG
  have htl := hR.tl
  have hp0 := up0_le (cs := cs) ha
  obtain ⟨⟨u1, -⟩, -⟩ := id hS
  have hqt : rt ≠ 33 := fun z => by rw [z, q1] at b1; cases b1
  have hqt2 : rt + 1 ≠ 33 := fun z => by rw [z, q1] at b2; cases b2
  have hr1 : r ≠ rt + 1 := fun z => by rw [z, b2] at a1; cases a1
  have hr2 : r + 1 ≠ rt := fun z => by rw [z, b1] at a2; cases a2
  have lp : ∀ (k9 : Nat) (j : Nat) (τ : Mem), j ≤ cnt → cnt + 1 ≤ j + k9 → Fr [22, 23, 24, 25, 26] σ τ → isSub Γ τ 22 (k + 1) (bn (sgP pt) (ys.take n) pv (up0 cs (ys.take n) a) r j) → Wq G M_Program_unfold (Em G (d + 3) 0 0 Q) 0 0 72 [some (rf G 33), some (rf G r), some (.int (nI a)), some (rf G rt), some (.int ((ys.take n).getD a (-1))), some (.int (caf cs (ys.take n) a)), some (ov G (pb ((ys.take n).getD a (-1)) (caf cs (ys.take n) a))), some (.int (nI (ends (sgP pt) (ys.take n) (up0 cs (ys.take n) a) j))), some (.int (nI cnt)), some (.int (nI j)), none] [] [] Γ τ := by
    intro k9
    induction k9 with
    | zero =>
      intro j τ h1 h2; omega
    | succ k9 ih =>
      intro j τ h1 h2 f0 S1
      refine x_iload d_Program_unfold_72 rfl ?_
      refine x_iload d_Program_unfold_74 rfl ?_
      refine x_icmp_ge (tgt := 123) d_Program_unfold_76 (by decide) (fun c76 => ?_) (fun c76 => ?_)
      · have hj : j = cnt := by rw [nI_leI (by omega) (by omega)] at c76; omega
        subst hj
        refine x_aload_n d_Program_unfold_123 rfl rfl ?_
        refine x_callV0 d_Program_unfold_124 k_Row_clear l_Program_61 v_Row_clear rfl s_Row_clear (by assumption) RoomE.m (Nat.le_of_ble_eq_true rfl) (c_Row_clear (hT.Fr f0 (by simp; omega) (by simp; omega)) (fun τ2 t2 f2 => ?_))
        have hR2 := (hR.Fr f0 (by simp; omega) (by simp; omega)).fr f2 (by simp; omega) (by simp; omega)
        refine x_aload_n d_Program_unfold_127 rfl rfl ?_
        refine x_aload_n d_Program_unfold_128 rfl rfl ?_
        refine x_iconst (v := 0) d_Program_unfold_129 (by decide) ?_
        refine x_iload_n d_Program_unfold_130 rfl rfl ?_
        refine x_callV3 d_Program_unfold_131 k_Row_addRange l_Program_64 v_Row_addRange rfl s_Row_addRange (by assumption) RoomE.m (Nat.le_of_ble_eq_true rfl) (c_Row_addRange' (f := 0) (t := a) nI_0.symm rfl t2 hR2 hne (by omega) (by omega) (fun τ3 t3 f3 => ?_))
        have hR3 := hR2.fr f3 (by simp; omega) (by simp; omega)
        have f23 : FrI [rt, rt + 1] τ τ3 := (f2.mono (by simp)).tr f3
        have S3 := S1.Fr f23.fr (by simp; omega) (by simp; omega) (by simp; omega) (by simp; omega) (by simp; omega)
        have e1 : (List.take a (ys.take n)).drop 0 = (ys.take n).take a := rfl
        rw [List.nil_append, e1] at t3
        have tail : ∀ τ4, isRow Γ τ4 rt nt ((ys.take n).take a ++ bs.flatMap (uS (sgP pt) (ys.take n) pv (up0 cs (ys.take n) a) j)) → FrI [rt, rt + 1] τ3 τ4 → Wq G M_Program_unfold (Em G (d + 3) 0 0 Q) 0 0 149 [some (rf G 33), some (rf G r), some (.int (nI a)), some (rf G rt), some (.int ((ys.take n).getD a (-1))), some (.int (caf cs (ys.take n) a)), some (ov G (pb ((ys.take n).getD a (-1)) (caf cs (ys.take n) a))), some (.int (nI (ends (sgP pt) (ys.take n) (up0 cs (ys.take n) a) j))), some (.int (nI j)), some (.int (nI j)), none] [] [] Γ τ4 := by
          intro τ4 t4 f4
          have hR4 := hR3.fr f4 (by simp; omega) (by simp; omega)
          first | refine x_aload_n d_Program_unfold_149 rfl rfl ?_ | refine x_aloadN_n d_Program_unfold_149 rfl rfl ?_ | refine x_aloadE_n d_Program_unfold_149 rfl rfl ?_ | refine x_aloadO_n d_Program_unfold_149 rfl rfl ?_
          first | refine x_aload_n d_Program_unfold_150 rfl rfl ?_ | refine x_aloadN_n d_Program_unfold_150 rfl rfl ?_ | refine x_aloadE_n d_Program_unfold_150 rfl rfl ?_ | refine x_aloadO_n d_Program_unfold_150 rfl rfl ?_
          refine x_iload d_Program_unfold_151 rfl ?_
          first | refine x_aload_n d_Program_unfold_153 rfl rfl ?_ | refine x_aloadN_n d_Program_unfold_153 rfl rfl ?_ | refine x_aloadE_n d_Program_unfold_153 rfl rfl ?_ | refine x_aloadO_n d_Program_unfold_153 rfl rfl ?_
          refine x_callV0 d_Program_unfold_154 k_Row_length l_Program_72 v_Row_length rfl s_Row_length (by assumption) RoomE.m (Nat.le_of_ble_eq_true rfl) (c_Row_length hR4 ?_)
          refine x_callV3 d_Program_unfold_157 k_Row_addRange l_Program_64 v_Row_addRange rfl s_Row_addRange (by assumption) RoomE.m (Nat.le_of_ble_eq_true rfl) (c_Row_addRange' rfl rfl t4 hR4 hne (by have := ends_le (P := sgP pt) hp0 j; omega) (by omega) (fun τ5 t5 f5 => ?_))
          exact x_return d_Program_unfold_160 rfl (by
            refine hQ τ5 _ (S3.Fr (f4.tr f5).fr (by simp; omega) (by simp; omega) (by simp; omega) (by simp; omega) (by simp; omega)) ?_ ((f0.mono (by simp)).tr ((f23.tr (f4.tr f5)).fr.mono (by simp)))
            rw [List.take_of_length_le (Nat.le_refl _)] at t5
            exact t5)
        rcases hp : pb ((ys.take n).getD a (-1)) (caf cs (ys.take n) a) with _ | rb
        · rw [hp] at hbd tail
          have hb0 : bs = [] := hbd
          refine x_aloadN d_Program_unfold_134 rfl ?_
          refine x_ifnullN (tgt := 149) d_Program_unfold_136 (by decide) ?_
          exact tail τ3 (by rw [hb0, List.flatMap_nil, List.append_nil]; exact t3) FrI.rf
        · rw [hp] at hbd tail
          obtain ⟨m, bs', h1, h2, h3, h4⟩ := hbd
          have v1 := h1.1
          have h23 := (h1.Fr f0 (by simp; omega) (by simp; omega)).fr2 (hT.Fr f0 (by simp; omega) (by simp; omega)) f23 h2
          first | refine x_aload d_Program_unfold_134 rfl ?_ | refine x_aloadN d_Program_unfold_134 rfl ?_ | refine x_aloadE d_Program_unfold_134 rfl ?_ | refine x_aloadO d_Program_unfold_134 rfl ?_
          refine x_ifnull d_Program_unfold_136 ?_
          first | refine x_aload_n d_Program_unfold_139 rfl rfl ?_ | refine x_aloadN_n d_Program_unfold_139 rfl rfl ?_ | refine x_aloadE_n d_Program_unfold_139 rfl rfl ?_ | refine x_aloadO_n d_Program_unfold_139 rfl rfl ?_
          refine x_getR d_Program_unfold_140 f_Program_15_4 rfl (by assumption) (((f23.fr 33 (by simp; omega)).2.1 ▸ (f0 33 (by simp)).2.1 ▸ q3)) ?_
          first | refine x_aload d_Program_unfold_143 rfl ?_ | refine x_aloadN d_Program_unfold_143 rfl ?_ | refine x_aloadE d_Program_unfold_143 rfl ?_ | refine x_aloadO d_Program_unfold_143 rfl ?_
          first | refine x_aload_n d_Program_unfold_145 rfl rfl ?_ | refine x_aloadN_n d_Program_unfold_145 rfl rfl ?_ | refine x_aloadE_n d_Program_unfold_145 rfl rfl ?_ | refine x_aloadO_n d_Program_unfold_145 rfl rfl ?_
          refine x_callV2 d_Program_unfold_146 k_Substitution_apply l_Program_68 v_Substitution_apply rfl s_Substitution_apply (by assumption) RoomE.m (Nat.le_of_ble_eq_true rfl) (c_Substitution_apply S3 h23 t3 h2 (by omega) (bn_ok hR3 hne hp0 j) (fun τ4 t4 f4 => ?_))
          exact tail τ4 (by rw [← flat_uS (r := r), h4]; exact t4) f4
      · have hjc : j < cnt := by rw [nI_leI (by omega) (by omega)] at c76; omega
        first | refine x_aload_n d_Program_unfold_79 rfl rfl ?_ | refine x_aloadN_n d_Program_unfold_79 rfl rfl ?_ | refine x_aloadE_n d_Program_unfold_79 rfl rfl ?_ | refine x_aloadO_n d_Program_unfold_79 rfl rfl ?_
        refine x_getR d_Program_unfold_80 f_Program_9_4 rfl (by assumption) (by rw [(f0 33 (by simp)).2.1]; exact q2) ?_
        first | refine x_aload_n d_Program_unfold_83 rfl rfl ?_ | refine x_aloadN_n d_Program_unfold_83 rfl rfl ?_ | refine x_aloadE_n d_Program_unfold_83 rfl rfl ?_ | refine x_aloadO_n d_Program_unfold_83 rfl rfl ?_
        refine x_iload d_Program_unfold_84 rfl ?_
        refine x_callV2 d_Program_unfold_86 k_Signs_behind l_Program_50 v_Signs_behind rfl s_Signs_behind (by assumption) RoomE.m (Nat.le_of_ble_eq_true rfl) (c_Signs_behind (hG.Fr f0 (by simp) (by simp) (by simp)) (hR.Fr f0 (by simp; omega) (by simp; omega)) (ends_le hp0 j) ?_)
        refine x_istore d_Program_unfold_89 rfl ?_
        first | refine x_aload_n d_Program_unfold_91 rfl rfl ?_ | refine x_aloadN_n d_Program_unfold_91 rfl rfl ?_ | refine x_aloadE_n d_Program_unfold_91 rfl rfl ?_ | refine x_aloadO_n d_Program_unfold_91 rfl rfl ?_
        refine x_getR d_Program_unfold_92 f_Program_15_4 rfl (by assumption) (by rw [(f0 33 (by simp)).2.1]; exact q3) ?_
        first | refine x_aload_n d_Program_unfold_95 rfl rfl ?_ | refine x_aloadN_n d_Program_unfold_95 rfl rfl ?_ | refine x_aloadE_n d_Program_unfold_95 rfl rfl ?_ | refine x_aloadO_n d_Program_unfold_95 rfl rfl ?_
        refine x_iload d_Program_unfold_96 rfl ?_
        refine x_iload d_Program_unfold_98 rfl ?_
        refine x_iload d_Program_unfold_100 rfl ?_
        refine x_callU3 d_Program_unfold_102 k_SourceProgram_variableOf l_Program_53 sm_Program_variableOf ⟨by decide, by decide⟩ (by decide +kernel) (Or.inl dc_Program_variableOf) v_SourceProgram_variableOf rfl so_SourceProgram_variableOf (by assumption) RoomE.m (Nat.le_of_ble_eq_true rfl) (hvf _ τ j hjc f0 ?_)
        first | refine x_aload_n d_Program_unfold_105 rfl rfl ?_ | refine x_aloadN_n d_Program_unfold_105 rfl rfl ?_ | refine x_aloadE_n d_Program_unfold_105 rfl rfl ?_ | refine x_aloadO_n d_Program_unfold_105 rfl rfl ?_
        refine x_iload d_Program_unfold_106 rfl ?_
        refine x_iload d_Program_unfold_108 rfl ?_
        refine x_callV4 d_Program_unfold_110 k_Substitution_bind l_Program_57 v_Substitution_bind rfl s_Substitution_bind (by assumption) RoomE.m (Nat.le_of_ble_eq_true rfl) (c_bind2 S1 (hR.Fr f0 (by simp; omega) (by simp; omega)) (fun τ2 s2 f2 => ?_))
        refine x_iload d_Program_unfold_113 rfl ?_
        refine x_istore d_Program_unfold_115 rfl ?_
        refine x_iinc (v := nI (j + 1)) d_Program_unfold_117 rfl (nI_1 j) rfl ?_
        refine x_goto (tgt := 72) d_Program_unfold_120 (by decide) ?_
        exact Wq.fg (ih (j + 1) τ2 (by omega) (by omega) (f0.tr (f2.mono (by simp))) s2) ⟨rfl, rfl, rfl, rfl, rfl, rfl, rfl, rfl, rfl, rfl, trivial⟩
  refine Ct.of (lv := [some (rf G 33), some (rf G r), some (.int (nI a)), some (rf G rt), none, none, none, none, none, none, none]) (ll := []) rfl rfl (EN.cat (n := 7) ⟨rfl, rfl, rfl, rfl, trivial⟩ (Nat.le_of_ble_eq_true rfl)) ?_
  first | refine x_aload_n d_Program_unfold_0 rfl rfl ?_ | refine x_aloadN_n d_Program_unfold_0 rfl rfl ?_ | refine x_aloadE_n d_Program_unfold_0 rfl rfl ?_ | refine x_aloadO_n d_Program_unfold_0 rfl rfl ?_
  refine x_iload_n d_Program_unfold_1 rfl rfl ?_
  refine x_callV1 d_Program_unfold_2 k_Row_at l_Program_23 v_Row_at rfl s_Row_at (by assumption) RoomE.m (Nat.le_of_ble_eq_true rfl) (c_Row_at hR ?_)
  rw [atI_nI (by omega)]
  refine x_istore d_Program_unfold_5 rfl ?_
  first | refine x_aload_n d_Program_unfold_7 rfl rfl ?_ | refine x_aloadN_n d_Program_unfold_7 rfl rfl ?_ | refine x_aloadE_n d_Program_unfold_7 rfl rfl ?_ | refine x_aloadO_n d_Program_unfold_7 rfl rfl ?_
  first | refine x_aload_n d_Program_unfold_8 rfl rfl ?_ | refine x_aloadN_n d_Program_unfold_8 rfl rfl ?_ | refine x_aloadE_n d_Program_unfold_8 rfl rfl ?_ | refine x_aloadO_n d_Program_unfold_8 rfl rfl ?_
  refine x_iload_n d_Program_unfold_9 rfl rfl ?_
  refine x_callP2 d_Program_unfold_10 k_Program_constructorAskedFor l_Program_19 sm_Program_constructorAskedFor ⟨by decide, by decide⟩ (by decide +kernel) (Or.inr ⟨_, _, _, v_Program_constructorAskedFor, (k_Program_constructorAskedFor).1⟩) v_Program_constructorAskedFor rfl pv_Program_constructorAskedFor ins_SourceProgram rfl rfl (by assumption) RoomE.m (Nat.le_of_ble_eq_true rfl) (c_caf_4 hPr hG hR (by omega) ?_)
  refine x_istore d_Program_unfold_13 rfl ?_
  first | refine x_aload_n d_Program_unfold_15 rfl rfl ?_ | refine x_aloadN_n d_Program_unfold_15 rfl rfl ?_ | refine x_aloadE_n d_Program_unfold_15 rfl rfl ?_ | refine x_aloadO_n d_Program_unfold_15 rfl rfl ?_
  refine x_iload d_Program_unfold_16 rfl ?_
  refine x_iload d_Program_unfold_18 rfl ?_
  refine x_callU2 d_Program_unfold_20 k_SourceProgram_bodyOf l_Program_35 sm_Program_bodyOf ⟨by decide, by decide⟩ (by decide +kernel) (Or.inl dc_Program_bodyOf) v_SourceProgram_bodyOf rfl so_SourceProgram_bodyOf (by assumption) RoomE.m (Nat.le_of_ble_eq_true rfl) (hb _ _ _ ?_)
  first | refine x_astore d_Program_unfold_23 rfl ?_ | refine x_astoreN d_Program_unfold_23 rfl ?_ | refine x_astoreE d_Program_unfold_23 rfl ?_ | refine x_astoreO d_Program_unfold_23 rfl ?_
  refine x_iload_n d_Program_unfold_25 rfl rfl ?_
  refine x_iconst (v := 1) d_Program_unfold_26 (by decide) ?_
  refine x_iadd d_Program_unfold_27 ?_
  rw [nI_1]
  refine x_istore d_Program_unfold_28 rfl ?_
  first | refine x_aload_n d_Program_unfold_30 rfl rfl ?_ | refine x_aloadN_n d_Program_unfold_30 rfl rfl ?_ | refine x_aloadE_n d_Program_unfold_30 rfl rfl ?_ | refine x_aloadO_n d_Program_unfold_30 rfl rfl ?_
  refine x_getR d_Program_unfold_31 f_Program_9_4 rfl (by assumption) (by assumption) ?_
  refine x_iload d_Program_unfold_34 rfl ?_
  refine x_callV1 d_Program_unfold_36 k_Signs_partsOf l_Program_39 v_Signs_partsOf rfl s_Signs_partsOf (by assumption) RoomE.m (Nat.le_of_ble_eq_true rfl) (c_Signs_partsOf hG ?_)
  refine x_istore d_Program_unfold_39 rfl ?_
  refine x_iload d_Program_unfold_41 rfl ?_
  refine x_iconst (v := -1) d_Program_unfold_43 (by decide) ?_
  refine x_icmp_eq (tgt := 62) d_Program_unfold_44 (by decide) (fun c44 => ?_) (fun c44 => ?_)
  · first | refine x_aload_n d_Program_unfold_62 rfl rfl ?_ | refine x_aloadN_n d_Program_unfold_62 rfl rfl ?_ | refine x_aloadE_n d_Program_unfold_62 rfl rfl ?_ | refine x_aloadO_n d_Program_unfold_62 rfl rfl ?_
    refine x_getR d_Program_unfold_63 f_Program_15_4 rfl (by assumption) (by assumption) ?_
    refine x_callV0 d_Program_unfold_66 k_Substitution_begin l_Program_45 v_Substitution_begin rfl s_Substitution_begin (by assumption) RoomE.m (Nat.le_of_ble_eq_true rfl) (c_Substitution_begin hS hk (fun τ1 s1 f1 => ?_))
    refine x_iconst (v := 0) d_Program_unfold_69 (by decide) ?_
    refine x_istore d_Program_unfold_70 rfl ?_
    exact Wq.fg (lp (cnt + 1) 0 τ1 (Nat.zero_le _) (by omega) (f1.fr.mono (by simp)) s1) (by
      have e0 : ends (sgP pt) (ys.take n) (up0 cs (ys.take n) a) 0 = up0 cs (ys.take n) a := rfl
      rw [e0, ← hcn]
      unfold up0 ucI
      first
      | (rw [if_pos c44, if_pos c44, nI_0]; exact ⟨rfl, rfl, rfl, rfl, rfl, rfl, rfl, rfl, rfl, rfl, trivial⟩)
      | (rw [if_neg c44, if_neg c44, nI_0]; exact ⟨rfl, rfl, rfl, rfl, rfl, rfl, rfl, rfl, rfl, rfl, trivial⟩))
  · refine x_iinc (v := nI (a + 2)) d_Program_unfold_47 rfl (nI_1 (a + 1)) rfl ?_
    refine x_iload d_Program_unfold_50 rfl ?_
    refine x_iload d_Program_unfold_52 rfl ?_
    refine x_callSN1 d_Program_unfold_54 k_SD_partsOfConstructor ln_Program_42 z_SD_partsOfConstructor RoomE.m (Nat.le_of_ble_eq_true rfl) (c_SD_partsOfConstructor ?_)
    refine x_iconst (v := 1) d_Program_unfold_57 (by decide) ?_
    refine x_isub d_Program_unfold_58 ?_
    refine x_iadd d_Program_unfold_59 ?_
    refine x_istore d_Program_unfold_60 rfl ?_
    first | refine x_aload_n d_Program_unfold_62 rfl rfl ?_ | refine x_aloadN_n d_Program_unfold_62 rfl rfl ?_ | refine x_aloadE_n d_Program_unfold_62 rfl rfl ?_ | refine x_aloadO_n d_Program_unfold_62 rfl rfl ?_
    refine x_getR d_Program_unfold_63 f_Program_15_4 rfl (by assumption) (by assumption) ?_
    refine x_callV0 d_Program_unfold_66 k_Substitution_begin l_Program_45 v_Substitution_begin rfl s_Substitution_begin (by assumption) RoomE.m (Nat.le_of_ble_eq_true rfl) (c_Substitution_begin hS hk (fun τ1 s1 f1 => ?_))
    refine x_iconst (v := 0) d_Program_unfold_69 (by decide) ?_
    refine x_istore d_Program_unfold_70 rfl ?_
    exact Wq.fg (lp (cnt + 1) 0 τ1 (Nat.zero_le _) (by omega) (f1.fr.mono (by simp)) s1) (by
      have e0 : ends (sgP pt) (ys.take n) (up0 cs (ys.take n) a) 0 = up0 cs (ys.take n) a := rfl
      rw [e0, ← hcn]
      unfold up0 ucI
      first
      | (rw [if_pos c44, if_pos c44, nI_0]; exact ⟨rfl, rfl, rfl, rfl, rfl, rfl, rfl, rfl, rfl, rfl, trivial⟩)
      | (rw [if_neg c44, if_neg c44, nI_0]; exact ⟨rfl, rfl, rfl, rfl, rfl, rfl, rfl, rfl, rfl, rfl, trivial⟩))
set_option maxRecDepth 10000 in
set_option maxHeartbeats 1000000 in
theorem c_unfold_9 {G : Ctx} {d : Nat} {Γ : List Sh} {σ : Mem} {Q : Option Value → List Sh → Mem → Prop} {r n a rt nt k cnt : Nat} {ys ts bs : List Int32} {pt : Nat → Int32} {cs : Nat → Bool} {β : Nat → Option (Nat × Nat × Nat)} {pb : Int32 → Int32 → Option Nat} {pv : Nat → Int32} (hPr : isPr Γ σ 9 385 27 22) (hG : isSg Γ σ 27 pt cs) (hS : isSub Γ σ 22 k β) (hk : k < 1000000000) (hR : isRow Γ σ r n ys) (hT : isRow Γ σ rt nt ts) (hr : 33 ≤ r) (hrt : 33 ≤ rt) (hne : r ≠ rt) (ha : a < (ys.take n).length) (hcn : ucI pt cs (ys.take n) a = nI cnt) (hcl : cnt ≤ 1000000) (hb : ∀ (Q2 : Option Value → List Sh → Mem → Prop) (s x : Int32), Q2 (some (ov G (pb s x))) Γ σ → Ct G M_ResidualProgram_bodyOf (d + 2) 0 0 [rf G 385, .int s, .int x] Γ σ Q2) (hbd : pbOK Γ σ rt bs (pb ((ys.take n).getD a (-1)) (caf cs (ys.take n) a))) (hvf : ∀ (Q2 : Option Value → List Sh → Mem → Prop) (τ : Mem) (j : Nat), j < cnt → Fr [22, 23, 24, 25, 26] σ τ → Q2 (some (.int (pv j))) Γ τ → Ct G M_ResidualProgram_variableOf (d + 2) 0 0 [rf G 385, .int ((ys.take n).getD a (-1)), .int (caf cs (ys.take n) a), .int (nI j)] Γ τ Q2) (hQ : ∀ σ' β', isSub Γ σ' 22 (k + 1) β' → isRow Γ σ' rt nt (unf (sgP pt) (ys.take n) pv a (up0 cs (ys.take n) a) cnt bs) → Fr [22, 23, 24, 25, 26, rt, rt + 1] σ σ' → Q none Γ σ') : Ct G M_Program_unfold (d + 3) 0 0 [rf G 385, rf G r, .int (nI a), rf G rt] Γ σ Q := by
  obtain ⟨q1, q2, q3⟩ := id hPr
  obtain ⟨a1, a2, a3, a4, a5, a6, a7⟩ := id hR
  obtain ⟨b1, b2, b3, b4, b5, b6, b7⟩ := id hT
  obtain ⟨⟨g1, g2, g3, g4, g5, g6⟩, -⟩ := id hG
  have htl := hR.tl
  have hp0 := up0_le (cs := cs) ha
  obtain ⟨⟨u1, -⟩, -⟩ := id hS
  have hqt : rt ≠ 385 := fun z => by rw [z, q1] at b1; cases b1
  have hqt2 : rt + 1 ≠ 385 := fun z => by rw [z, q1] at b2; cases b2
  have hr1 : r ≠ rt + 1 := fun z => by rw [z, b2] at a1; cases a1
  have hr2 : r + 1 ≠ rt := fun z => by rw [z, b1] at a2; cases a2
  have lp : ∀ (k9 : Nat) (j : Nat) (τ : Mem), j ≤ cnt → cnt + 1 ≤ j + k9 → Fr [22, 23, 24, 25, 26] σ τ → isSub Γ τ 22 (k + 1) (bn (sgP pt) (ys.take n) pv (up0 cs (ys.take n) a) r j) → Wq G M_Program_unfold (Em G (d + 3) 0 0 Q) 0 0 72 [some (rf G 385), some (rf G r), some (.int (nI a)), some (rf G rt), some (.int ((ys.take n).getD a (-1))), some (.int (caf cs (ys.take n) a)), some (ov G (pb ((ys.take n).getD a (-1)) (caf cs (ys.take n) a))), some (.int (nI (ends (sgP pt) (ys.take n) (up0 cs (ys.take n) a) j))), some (.int (nI cnt)), some (.int (nI j)), none] [] [] Γ τ := by
    intro k9
    induction k9 with
    | zero =>
      intro j τ h1 h2; omega
    | succ k9 ih =>
      intro j τ h1 h2 f0 S1
      refine x_iload d_Program_unfold_72 rfl ?_
      refine x_iload d_Program_unfold_74 rfl ?_
      refine x_icmp_ge (tgt := 123) d_Program_unfold_76 (by decide) (fun c76 => ?_) (fun c76 => ?_)
      · have hj : j = cnt := by rw [nI_leI (by omega) (by omega)] at c76; omega
        subst hj
        refine x_aload_n d_Program_unfold_123 rfl rfl ?_
        refine x_callV0 d_Program_unfold_124 k_Row_clear l_Program_61 v_Row_clear rfl s_Row_clear (by assumption) RoomE.m (Nat.le_of_ble_eq_true rfl) (c_Row_clear (hT.Fr f0 (by simp; omega) (by simp; omega)) (fun τ2 t2 f2 => ?_))
        have hR2 := (hR.Fr f0 (by simp; omega) (by simp; omega)).fr f2 (by simp; omega) (by simp; omega)
        refine x_aload_n d_Program_unfold_127 rfl rfl ?_
        refine x_aload_n d_Program_unfold_128 rfl rfl ?_
        refine x_iconst (v := 0) d_Program_unfold_129 (by decide) ?_
        refine x_iload_n d_Program_unfold_130 rfl rfl ?_
        refine x_callV3 d_Program_unfold_131 k_Row_addRange l_Program_64 v_Row_addRange rfl s_Row_addRange (by assumption) RoomE.m (Nat.le_of_ble_eq_true rfl) (c_Row_addRange' (f := 0) (t := a) nI_0.symm rfl t2 hR2 hne (by omega) (by omega) (fun τ3 t3 f3 => ?_))
        have hR3 := hR2.fr f3 (by simp; omega) (by simp; omega)
        have f23 : FrI [rt, rt + 1] τ τ3 := (f2.mono (by simp)).tr f3
        have S3 := S1.Fr f23.fr (by simp; omega) (by simp; omega) (by simp; omega) (by simp; omega) (by simp; omega)
        have e1 : (List.take a (ys.take n)).drop 0 = (ys.take n).take a := rfl
        rw [List.nil_append, e1] at t3
        have tail : ∀ τ4, isRow Γ τ4 rt nt ((ys.take n).take a ++ bs.flatMap (uS (sgP pt) (ys.take n) pv (up0 cs (ys.take n) a) j)) → FrI [rt, rt + 1] τ3 τ4 → Wq G M_Program_unfold (Em G (d + 3) 0 0 Q) 0 0 149 [some (rf G 385), some (rf G r), some (.int (nI a)), some (rf G rt), some (.int ((ys.take n).getD a (-1))), some (.int (caf cs (ys.take n) a)), some (ov G (pb ((ys.take n).getD a (-1)) (caf cs (ys.take n) a))), some (.int (nI (ends (sgP pt) (ys.take n) (up0 cs (ys.take n) a) j))), some (.int (nI j)), some (.int (nI j)), none] [] [] Γ τ4 := by
          intro τ4 t4 f4
          have hR4 := hR3.fr f4 (by simp; omega) (by simp; omega)
          first | refine x_aload_n d_Program_unfold_149 rfl rfl ?_ | refine x_aloadN_n d_Program_unfold_149 rfl rfl ?_ | refine x_aloadE_n d_Program_unfold_149 rfl rfl ?_ | refine x_aloadO_n d_Program_unfold_149 rfl rfl ?_
          first | refine x_aload_n d_Program_unfold_150 rfl rfl ?_ | refine x_aloadN_n d_Program_unfold_150 rfl rfl ?_ | refine x_aloadE_n d_Program_unfold_150 rfl rfl ?_ | refine x_aloadO_n d_Program_unfold_150 rfl rfl ?_
          refine x_iload d_Program_unfold_151 rfl ?_
          first | refine x_aload_n d_Program_unfold_153 rfl rfl ?_ | refine x_aloadN_n d_Program_unfold_153 rfl rfl ?_ | refine x_aloadE_n d_Program_unfold_153 rfl rfl ?_ | refine x_aloadO_n d_Program_unfold_153 rfl rfl ?_
          refine x_callV0 d_Program_unfold_154 k_Row_length l_Program_72 v_Row_length rfl s_Row_length (by assumption) RoomE.m (Nat.le_of_ble_eq_true rfl) (c_Row_length hR4 ?_)
          refine x_callV3 d_Program_unfold_157 k_Row_addRange l_Program_64 v_Row_addRange rfl s_Row_addRange (by assumption) RoomE.m (Nat.le_of_ble_eq_true rfl) (c_Row_addRange' rfl rfl t4 hR4 hne (by have := ends_le (P := sgP pt) hp0 j; omega) (by omega) (fun τ5 t5 f5 => ?_))
          exact x_return d_Program_unfold_160 rfl (by
            refine hQ τ5 _ (S3.Fr (f4.tr f5).fr (by simp; omega) (by simp; omega) (by simp; omega) (by simp; omega) (by simp; omega)) ?_ ((f0.mono (by simp)).tr ((f23.tr (f4.tr f5)).fr.mono (by simp)))
            rw [List.take_of_length_le (Nat.le_refl _)] at t5
            exact t5)
        rcases hp : pb ((ys.take n).getD a (-1)) (caf cs (ys.take n) a) with _ | rb
        · rw [hp] at hbd tail
          have hb0 : bs = [] := hbd
          refine x_aloadN d_Program_unfold_134 rfl ?_
          refine x_ifnullN (tgt := 149) d_Program_unfold_136 (by decide) ?_
          exact tail τ3 (by rw [hb0, List.flatMap_nil, List.append_nil]; exact t3) FrI.rf
        · rw [hp] at hbd tail
          obtain ⟨m, bs', h1, h2, h3, h4⟩ := hbd
          have v1 := h1.1
          have h23 := (h1.Fr f0 (by simp; omega) (by simp; omega)).fr2 (hT.Fr f0 (by simp; omega) (by simp; omega)) f23 h2
          first | refine x_aload d_Program_unfold_134 rfl ?_ | refine x_aloadN d_Program_unfold_134 rfl ?_ | refine x_aloadE d_Program_unfold_134 rfl ?_ | refine x_aloadO d_Program_unfold_134 rfl ?_
          refine x_ifnull d_Program_unfold_136 ?_
          first | refine x_aload_n d_Program_unfold_139 rfl rfl ?_ | refine x_aloadN_n d_Program_unfold_139 rfl rfl ?_ | refine x_aloadE_n d_Program_unfold_139 rfl rfl ?_ | refine x_aloadO_n d_Program_unfold_139 rfl rfl ?_
          refine x_getR d_Program_unfold_140 f_Program_15_9 rfl (by assumption) (((f23.fr 385 (by simp; omega)).2.1 ▸ (f0 385 (by simp)).2.1 ▸ q3)) ?_
          first | refine x_aload d_Program_unfold_143 rfl ?_ | refine x_aloadN d_Program_unfold_143 rfl ?_ | refine x_aloadE d_Program_unfold_143 rfl ?_ | refine x_aloadO d_Program_unfold_143 rfl ?_
          first | refine x_aload_n d_Program_unfold_145 rfl rfl ?_ | refine x_aloadN_n d_Program_unfold_145 rfl rfl ?_ | refine x_aloadE_n d_Program_unfold_145 rfl rfl ?_ | refine x_aloadO_n d_Program_unfold_145 rfl rfl ?_
          refine x_callV2 d_Program_unfold_146 k_Substitution_apply l_Program_68 v_Substitution_apply rfl s_Substitution_apply (by assumption) RoomE.m (Nat.le_of_ble_eq_true rfl) (c_Substitution_apply S3 h23 t3 h2 (by omega) (bn_ok hR3 hne hp0 j) (fun τ4 t4 f4 => ?_))
          exact tail τ4 (by rw [← flat_uS (r := r), h4]; exact t4) f4
      · have hjc : j < cnt := by rw [nI_leI (by omega) (by omega)] at c76; omega
        first | refine x_aload_n d_Program_unfold_79 rfl rfl ?_ | refine x_aloadN_n d_Program_unfold_79 rfl rfl ?_ | refine x_aloadE_n d_Program_unfold_79 rfl rfl ?_ | refine x_aloadO_n d_Program_unfold_79 rfl rfl ?_
        refine x_getR d_Program_unfold_80 f_Program_9_9 rfl (by assumption) (by rw [(f0 385 (by simp)).2.1]; exact q2) ?_
        first | refine x_aload_n d_Program_unfold_83 rfl rfl ?_ | refine x_aloadN_n d_Program_unfold_83 rfl rfl ?_ | refine x_aloadE_n d_Program_unfold_83 rfl rfl ?_ | refine x_aloadO_n d_Program_unfold_83 rfl rfl ?_
        refine x_iload d_Program_unfold_84 rfl ?_
        refine x_callV2 d_Program_unfold_86 k_Signs_behind l_Program_50 v_Signs_behind rfl s_Signs_behind (by assumption) RoomE.m (Nat.le_of_ble_eq_true rfl) (c_Signs_behind (hG.Fr f0 (by simp) (by simp) (by simp)) (hR.Fr f0 (by simp; omega) (by simp; omega)) (ends_le hp0 j) ?_)
        refine x_istore d_Program_unfold_89 rfl ?_
        first | refine x_aload_n d_Program_unfold_91 rfl rfl ?_ | refine x_aloadN_n d_Program_unfold_91 rfl rfl ?_ | refine x_aloadE_n d_Program_unfold_91 rfl rfl ?_ | refine x_aloadO_n d_Program_unfold_91 rfl rfl ?_
        refine x_getR d_Program_unfold_92 f_Program_15_9 rfl (by assumption) (by rw [(f0 385 (by simp)).2.1]; exact q3) ?_
        first | refine x_aload_n d_Program_unfold_95 rfl rfl ?_ | refine x_aloadN_n d_Program_unfold_95 rfl rfl ?_ | refine x_aloadE_n d_Program_unfold_95 rfl rfl ?_ | refine x_aloadO_n d_Program_unfold_95 rfl rfl ?_
        refine x_iload d_Program_unfold_96 rfl ?_
        refine x_iload d_Program_unfold_98 rfl ?_
        refine x_iload d_Program_unfold_100 rfl ?_
        refine x_callU3 d_Program_unfold_102 k_ResidualProgram_variableOf l_Program_53 sm_Program_variableOf ⟨by decide, by decide⟩ (by decide +kernel) (Or.inl dc_Program_variableOf) v_ResidualProgram_variableOf rfl so_ResidualProgram_variableOf (by assumption) RoomE.m (Nat.le_of_ble_eq_true rfl) (hvf _ τ j hjc f0 ?_)
        first | refine x_aload_n d_Program_unfold_105 rfl rfl ?_ | refine x_aloadN_n d_Program_unfold_105 rfl rfl ?_ | refine x_aloadE_n d_Program_unfold_105 rfl rfl ?_ | refine x_aloadO_n d_Program_unfold_105 rfl rfl ?_
        refine x_iload d_Program_unfold_106 rfl ?_
        refine x_iload d_Program_unfold_108 rfl ?_
        refine x_callV4 d_Program_unfold_110 k_Substitution_bind l_Program_57 v_Substitution_bind rfl s_Substitution_bind (by assumption) RoomE.m (Nat.le_of_ble_eq_true rfl) (c_bind2 S1 (hR.Fr f0 (by simp; omega) (by simp; omega)) (fun τ2 s2 f2 => ?_))
        refine x_iload d_Program_unfold_113 rfl ?_
        refine x_istore d_Program_unfold_115 rfl ?_
        refine x_iinc (v := nI (j + 1)) d_Program_unfold_117 rfl (nI_1 j) rfl ?_
        refine x_goto (tgt := 72) d_Program_unfold_120 (by decide) ?_
        exact Wq.fg (ih (j + 1) τ2 (by omega) (by omega) (f0.tr (f2.mono (by simp))) s2) ⟨rfl, rfl, rfl, rfl, rfl, rfl, rfl, rfl, rfl, rfl, trivial⟩
  refine Ct.of (lv := [some (rf G 385), some (rf G r), some (.int (nI a)), some (rf G rt), none, none, none, none, none, none, none]) (ll := []) rfl rfl (EN.cat (n := 7) ⟨rfl, rfl, rfl, rfl, trivial⟩ (Nat.le_of_ble_eq_true rfl)) ?_
  first | refine x_aload_n d_Program_unfold_0 rfl rfl ?_ | refine x_aloadN_n d_Program_unfold_0 rfl rfl ?_ | refine x_aloadE_n d_Program_unfold_0 rfl rfl ?_ | refine x_aloadO_n d_Program_unfold_0 rfl rfl ?_
  refine x_iload_n d_Program_unfold_1 rfl rfl ?_
  refine x_callV1 d_Program_unfold_2 k_Row_at l_Program_23 v_Row_at rfl s_Row_at (by assumption) RoomE.m (Nat.le_of_ble_eq_true rfl) (c_Row_at hR ?_)
  rw [atI_nI (by omega)]
  refine x_istore d_Program_unfold_5 rfl ?_
  first | refine x_aload_n d_Program_unfold_7 rfl rfl ?_ | refine x_aloadN_n d_Program_unfold_7 rfl rfl ?_ | refine x_aloadE_n d_Program_unfold_7 rfl rfl ?_ | refine x_aloadO_n d_Program_unfold_7 rfl rfl ?_
  first | refine x_aload_n d_Program_unfold_8 rfl rfl ?_ | refine x_aloadN_n d_Program_unfold_8 rfl rfl ?_ | refine x_aloadE_n d_Program_unfold_8 rfl rfl ?_ | refine x_aloadO_n d_Program_unfold_8 rfl rfl ?_
  refine x_iload_n d_Program_unfold_9 rfl rfl ?_
  refine x_callP2 d_Program_unfold_10 k_Program_constructorAskedFor l_Program_19 sm_Program_constructorAskedFor ⟨by decide, by decide⟩ (by decide +kernel) (Or.inr ⟨_, _, _, v_Program_constructorAskedFor, (k_Program_constructorAskedFor).1⟩) v_Program_constructorAskedFor rfl pv_Program_constructorAskedFor ins_ResidualProgram rfl rfl (by assumption) RoomE.m (Nat.le_of_ble_eq_true rfl) (c_caf_9 hPr hG hR (by omega) ?_)
  refine x_istore d_Program_unfold_13 rfl ?_
  first | refine x_aload_n d_Program_unfold_15 rfl rfl ?_ | refine x_aloadN_n d_Program_unfold_15 rfl rfl ?_ | refine x_aloadE_n d_Program_unfold_15 rfl rfl ?_ | refine x_aloadO_n d_Program_unfold_15 rfl rfl ?_
  refine x_iload d_Program_unfold_16 rfl ?_
  refine x_iload d_Program_unfold_18 rfl ?_
  refine x_callU2 d_Program_unfold_20 k_ResidualProgram_bodyOf l_Program_35 sm_Program_bodyOf ⟨by decide, by decide⟩ (by decide +kernel) (Or.inl dc_Program_bodyOf) v_ResidualProgram_bodyOf rfl so_ResidualProgram_bodyOf (by assumption) RoomE.m (Nat.le_of_ble_eq_true rfl) (hb _ _ _ ?_)
  first | refine x_astore d_Program_unfold_23 rfl ?_ | refine x_astoreN d_Program_unfold_23 rfl ?_ | refine x_astoreE d_Program_unfold_23 rfl ?_ | refine x_astoreO d_Program_unfold_23 rfl ?_
  refine x_iload_n d_Program_unfold_25 rfl rfl ?_
  refine x_iconst (v := 1) d_Program_unfold_26 (by decide) ?_
  refine x_iadd d_Program_unfold_27 ?_
  rw [nI_1]
  refine x_istore d_Program_unfold_28 rfl ?_
  first | refine x_aload_n d_Program_unfold_30 rfl rfl ?_ | refine x_aloadN_n d_Program_unfold_30 rfl rfl ?_ | refine x_aloadE_n d_Program_unfold_30 rfl rfl ?_ | refine x_aloadO_n d_Program_unfold_30 rfl rfl ?_
  refine x_getR d_Program_unfold_31 f_Program_9_9 rfl (by assumption) (by assumption) ?_
  refine x_iload d_Program_unfold_34 rfl ?_
  refine x_callV1 d_Program_unfold_36 k_Signs_partsOf l_Program_39 v_Signs_partsOf rfl s_Signs_partsOf (by assumption) RoomE.m (Nat.le_of_ble_eq_true rfl) (c_Signs_partsOf hG ?_)
  refine x_istore d_Program_unfold_39 rfl ?_
  refine x_iload d_Program_unfold_41 rfl ?_
  refine x_iconst (v := -1) d_Program_unfold_43 (by decide) ?_
  refine x_icmp_eq (tgt := 62) d_Program_unfold_44 (by decide) (fun c44 => ?_) (fun c44 => ?_)
  · first | refine x_aload_n d_Program_unfold_62 rfl rfl ?_ | refine x_aloadN_n d_Program_unfold_62 rfl rfl ?_ | refine x_aloadE_n d_Program_unfold_62 rfl rfl ?_ | refine x_aloadO_n d_Program_unfold_62 rfl rfl ?_
    refine x_getR d_Program_unfold_63 f_Program_15_9 rfl (by assumption) (by assumption) ?_
    refine x_callV0 d_Program_unfold_66 k_Substitution_begin l_Program_45 v_Substitution_begin rfl s_Substitution_begin (by assumption) RoomE.m (Nat.le_of_ble_eq_true rfl) (c_Substitution_begin hS hk (fun τ1 s1 f1 => ?_))
    refine x_iconst (v := 0) d_Program_unfold_69 (by decide) ?_
    refine x_istore d_Program_unfold_70 rfl ?_
    exact Wq.fg (lp (cnt + 1) 0 τ1 (Nat.zero_le _) (by omega) (f1.fr.mono (by simp)) s1) (by
      have e0 : ends (sgP pt) (ys.take n) (up0 cs (ys.take n) a) 0 = up0 cs (ys.take n) a := rfl
      rw [e0, ← hcn]
      unfold up0 ucI
      first
      | (rw [if_pos c44, if_pos c44, nI_0]; exact ⟨rfl, rfl, rfl, rfl, rfl, rfl, rfl, rfl, rfl, rfl, trivial⟩)
      | (rw [if_neg c44, if_neg c44, nI_0]; exact ⟨rfl, rfl, rfl, rfl, rfl, rfl, rfl, rfl, rfl, rfl, trivial⟩))
  · refine x_iinc (v := nI (a + 2)) d_Program_unfold_47 rfl (nI_1 (a + 1)) rfl ?_
    refine x_iload d_Program_unfold_50 rfl ?_
    refine x_iload d_Program_unfold_52 rfl ?_
    refine x_callSN1 d_Program_unfold_54 k_SD_partsOfConstructor ln_Program_42 z_SD_partsOfConstructor RoomE.m (Nat.le_of_ble_eq_true rfl) (c_SD_partsOfConstructor ?_)
    refine x_iconst (v := 1) d_Program_unfold_57 (by decide) ?_
    refine x_isub d_Program_unfold_58 ?_
    refine x_iadd d_Program_unfold_59 ?_
    refine x_istore d_Program_unfold_60 rfl ?_
    first | refine x_aload_n d_Program_unfold_62 rfl rfl ?_ | refine x_aloadN_n d_Program_unfold_62 rfl rfl ?_ | refine x_aloadE_n d_Program_unfold_62 rfl rfl ?_ | refine x_aloadO_n d_Program_unfold_62 rfl rfl ?_
    refine x_getR d_Program_unfold_63 f_Program_15_9 rfl (by assumption) (by assumption) ?_
    refine x_callV0 d_Program_unfold_66 k_Substitution_begin l_Program_45 v_Substitution_begin rfl s_Substitution_begin (by assumption) RoomE.m (Nat.le_of_ble_eq_true rfl) (c_Substitution_begin hS hk (fun τ1 s1 f1 => ?_))
    refine x_iconst (v := 0) d_Program_unfold_69 (by decide) ?_
    refine x_istore d_Program_unfold_70 rfl ?_
    exact Wq.fg (lp (cnt + 1) 0 τ1 (Nat.zero_le _) (by omega) (f1.fr.mono (by simp)) s1) (by
      have e0 : ends (sgP pt) (ys.take n) (up0 cs (ys.take n) a) 0 = up0 cs (ys.take n) a := rfl
      rw [e0, ← hcn]
      unfold up0 ucI
      first
      | (rw [if_pos c44, if_pos c44, nI_0]; exact ⟨rfl, rfl, rfl, rfl, rfl, rfl, rfl, rfl, rfl, rfl, trivial⟩)
      | (rw [if_neg c44, if_neg c44, nI_0]; exact ⟨rfl, rfl, rfl, rfl, rfl, rfl, rfl, rfl, rfl, rfl, trivial⟩))
