/-! SuperDriverModel: isEmbedded -/
theorem mF_fuel {P : Int32 → Int32} {zi zo : List Int32} (hP : PB P) (hz : zo.length ≤ 10000) (hf : full (nP P) 1 zo = true) : ∀ {f f' i j : Nat}, j < zo.length → zo.length ≤ f + j → zo.length ≤ f' + j → mF P zi zo f i j = mF P zi zo f' i j
  | 0, _, _, _, hj, h, _ => by omega
  | _ + 1, 0, _, _, hj, _, h => by omega
  | f + 1, f' + 1, i, j, hj, h1, h2 => by
    show RH P zi zo (mF P zi zo f) i j = RH P zi zo (mF P zi zo f') i j
    unfold RH
    rw [any_cg (fun k hk => by
      have := ends_lt hP hz hj hf (List.mem_range.mp hk)
      exact mF_fuel (f := f) (f' := f') hP hz hf this.1 (by omega) (by omega)), cplB_cg hP hz hf hj (fun k hk e => by
      have h2 := ends_lt hP hz hj hf (by rw [← e]; exact hk)
      exact mF_fuel (f := f) (f' := f') hP hz hf h2.1 (by omega) (by omega))]
def Fm (P : Int32 → Int32) (zi zo : List Int32) (i j : Nat) : Bool := mF P zi zo zo.length i j
theorem Fm_eq {P : Int32 → Int32} {zi zo : List Int32} {i j : Nat} (hP : PB P) (hz : zo.length ≤ 10000) (hf : full (nP P) 1 zo = true) (hj : j < zo.length) : Fm P zi zo i j = RH P zi zo (Fm P zi zo) i j := by
  unfold Fm
  rw [mF_fuel hP hz hf (f' := zo.length + 1) hj (by omega) (by omega)]
  rfl
theorem mF_len {P : Int32 → Int32} {zi zo : List Int32} (hP : PB P) (hzi : zi.length ≤ 10000) (hz : zo.length ≤ 10000) (hfi : full (nP P) 1 zi = true) (hf : full (nP P) 1 zo = true) (hv0 : ∀ s, isV s = true → nP P s = 0) : ∀ {f i j : Nat}, i < zi.length → j < zo.length → mF P zi zo f i j = true → tk (nP P) 1 (zi.drop i) ≤ tk (nP P) 1 (zo.drop j)
  | 0, _, _, _, _, h => by cases h
  | f + 1, i, j, hi, hj, h => by
    have hR : RH P zi zo (mF P zi zo f) i j = true := h
    unfold RH at hR
    have e1 : ∀ (l : List Int32) (i : Nat), i < l.length → tk (nP P) 1 (l.drop i) = 1 + tk (nP P) (nP P (l.getD i (-1))) (l.drop (i + 1)) := fun l i hl => by
      rw [drop_cons hl]
      show 1 + tk (nP P) (0 + nP P (l.getD i (-1))) _ = _
      rw [Nat.zero_add]
    rcases Bool.or_eq_true_iff.mp hR with hR | hR
    · obtain ⟨k, hk, hm⟩ := List.any_eq_true.mp hR
      have hk' := List.mem_range.mp hk
      have he := ends_lt hP hz hj hf hk'
      have ih := mF_len hP hzi hz hfi hf hv0 hi he.1 hm
      rw [e1 zo j hj]
      have e2 : tk (nP P) (nP P (zo.getD j (-1))) (zo.drop (j + 1)) = tk (nP P) (k + 1 + (nP P (zo.getD j (-1)) - k - 1)) (zo.drop (j + 1)) := by congr 1; omega
      rw [e2, tk_add, tk_add _ k 1, List.drop_drop]
      rw [ends_tk hP hz] at ih
      omega
    · obtain ⟨_, hc⟩ := Bool.and_eq_true_iff.mp hR
      unfold cplB at hc
      split at hc
      · next hv =>
        obtain ⟨v1, v2⟩ := Bool.and_eq_true_iff.mp hc
        rw [e1 zi i hi, e1 zo j hj, hv0 _ v1, hv0 _ v2, tk_z, tk_z]
        exact Nat.le_refl _
      · obtain ⟨hs, ha⟩ := Bool.and_eq_true_iff.mp hc
        have hs := of_decide_eq_true hs
        have ha := List.all_eq_true.mp ha
        rw [e1 zi i hi, e1 zo j hj, ← hs]
        have key : ∀ k, k ≤ nP P (zi.getD i (-1)) → tk (nP P) k (zi.drop (i + 1)) ≤ tk (nP P) k (zo.drop (j + 1)) := by
          intro k
          induction k with
          | zero => intro _; rw [tk_z]; exact Nat.zero_le _
          | succ k ihk =>
            intro hk
            have h1 := ihk (by omega)
            have g1 := ends_lt hP hzi hi hfi (show k < nP P (zi.getD i (-1)) by omega)
            have g2 := ends_lt hP hz hj hf (show k < nP P (zo.getD j (-1)) by rw [← hs]; omega)
            have ih := mF_len hP hzi hz hfi hf hv0 g1.1 g2.1 (ha k (List.mem_range.mpr (by omega)))
            rw [ends_tk hP hzi, ends_tk hP hz] at ih
            rw [tk_add _ k 1, tk_add _ k 1, List.drop_drop, List.drop_drop]
            omega
        have := key _ (Nat.le_refl _)
        omega
theorem embB_eq {P : Int32 → Int32} {zi zo : List Int32} (hP : PB P) (hzi : zi.length ≤ 10000) (hz : zo.length ≤ 10000) (hfi : full (nP P) 1 zi = true) (hf : full (nP P) 1 zo = true) (hv0 : ∀ s, isV s = true → nP P s = 0) : embB P zi zo = Fm P zi zo 0 0 := by
  unfold embB Fm
  cases e : mF P zi zo zo.length 0 0 with
  | false => rw [Bool.and_false]
  | true =>
    have := mF_len hP hzi hz hfi hf hv0 (full_ne hfi) (full_ne hf) e
    rw [List.drop_zero, List.drop_zero, tk_full hfi, tk_full hf] at this
    rw [decide_eq_true this]; rfl
theorem SW.v0 {pt : Nat → Int32} {cs : Nat → Bool} (h : SW pt cs) (s : Int32) (hs : isV s = true) : nP (sgP pt) s = 0 := by
  have h0 : ¬ s < 0 := fun z => by simp [isV, z] at hs
  obtain ⟨k, hk, rfl⟩ := nI_of h0
  by_cases hk2 : k < 2000000
  · rw [isV_n hk2] at hs
    exact h.v (of_decide_eq_true hs)
  · unfold isV at hs
    rw [if_neg h0, if_pos (show (100 : Int32) ≤ nI k from nI_le (show 100 ≤ k by omega) hk)] at hs
    cases hs
/-- two terms stand in the array of terms -/
def twT (σ : Mem) (q : Int32 → Nat) (a b : Nat) (zs ws : List Int32) : Prop := a < 48 ∧ b < 48 ∧ (zs.length ≤ 40 ∧ ws.length ≤ 40) ∧ seg σ 402 (40 * a) zs ∧ seg σ 402 (40 * b) ws ∧ full q 1 zs = true ∧ full q 1 ws = true ∧ pAll σ q zs ∧ pAll σ q ws
theorem twT.fr {σ σ' : Mem} {q : Int32 → Nat} {a b : Nat} {zs ws : List Int32} {S : List Nat} (h : twT σ q a b zs ws) (hf : FrI S σ σ') (h1 : 393 ∉ S) (h2 : 412 ∉ S) (h3 : 402 ∉ S) : twT σ' q a b zs ws := ⟨h.1, h.2.1, h.2.2.1, h.2.2.2.1.fr hf h3, h.2.2.2.2.1.fr hf h3, h.2.2.2.2.2.1, h.2.2.2.2.2.2.1, h.2.2.2.2.2.2.2.1.fr hf h1 h2, h.2.2.2.2.2.2.2.2.fr hf h1 h2⟩
def alF (F : Nat → Bool) (n k : Nat) : Bool := decide (∀ i, i < n → k ≤ i → F i = true)
theorem alF_all {F : Nat → Bool} {n : Nat} : (List.range n).all F = alF F n 0 := by
  unfold alF
  cases h : (List.range n).all F with
  | true => exact (decide_eq_true (fun i hi _ => List.all_eq_true.mp h i (List.mem_range.mpr hi))).symm
  | false =>
    refine (decide_eq_false (fun z => ?_)).symm
    have : (List.range n).all F = true := List.all_eq_true.mpr (fun i hi => z i (List.mem_range.mp hi) (Nat.zero_le _))
    rw [h] at this; cases this
theorem alF_s {F : Nat → Bool} {n k : Nat} (hk : k < n) : alF F n k = (F k && alF F n (k + 1)) := by
  unfold alF
  rw [← Bool.decide_eq_true (b := F k), ← Bool.decide_and]
  refine decide_eq_decide.mpr ⟨fun h => ⟨by simpa using h k hk (Nat.le_refl _), fun i hn hi => h i hn (by omega)⟩, fun h i hn hi => ?_⟩
  by_cases e : i = k
  · rw [e]; simpa using h.1
  · exact h.2 i hn (by omega)
theorem alF_n {F : Nat → Bool} {n k : Nat} (hk : n ≤ k) : alF F n k = true := decide_eq_true (fun i h1 h2 => by omega)
theorem any_n {F : Nat → Bool} {n : Nat} : (List.range n).any F = !alF (fun k => !F k) n 0 := by
  rw [← alF_all, List.not_all_eq_any_not]
  congr 1
  funext k
  rw [Bool.not_not]
set_option maxRecDepth 10000 in
set_option maxHeartbeats 1000000 in
theorem c_Mo_areParts {G : Ctx} {d : Nat} {Γ : List Sh} {σ : Mem} {Q : Option Value → List Sh → Mem → Prop} {P : Int32 → Int32} {a b i j n : Nat} {zs ws : List Int32} (hM : MoS Γ σ) (hP : PB P) (hT : twT σ (nP P) a b zs ws) (hi : i < zs.length) (hj : j < ws.length) (hn1 : n = nP P (zs.getD i (-1))) (hn2 : n = nP P (ws.getD j (-1))) (he : ∀ k, k < n → σ.1 421 (40 * ends P zs (i + 1) k + ends P ws (j + 1) k) = bI (Fm P zs ws (ends P zs (i + 1) k) (ends P ws (j + 1) k))) (hQ : Q (some (.int (bI (alF (fun k => Fm P zs ws (ends P zs (i + 1) k) (ends P ws (j + 1) k)) n 0)))) Γ σ) : Ct G M_Mo_areParts (d + 3) 0 0 [rf G 391, .int (nI a), .int (nI (40 * a + (i + 1))), .int (nI b), .int (nI (40 * b + (j + 1))), .int (nI n)] Γ σ Q := by
  have hn60 : n ≤ 60 := by have := (hP.le (zs.getD i (-1))).1; omega
  obtain ⟨t1, t2, ⟨t3, t3b⟩, t4, t5, t6, t7, t8, t9⟩ := id hT
  generalize hRR : alF (fun k => Fm P zs ws (ends P zs (i + 1) k) (ends P ws (j + 1) k)) n 0 = R at hQ
  have tl : ∀ (g : Bool) (x7 x8 x9 : Int32), g = R → Wq G M_Mo_areParts (Em G (d + 3) 0 0 Q) 0 0 80 [some (rf G 391), some (.int (nI a)), some (.int (nI (40 * a + (i + 1)))), some (.int (nI b)), some (.int (nI (40 * b + (j + 1)))), some (.int (nI n)), some (.int (bI g)), some (.int x7), some (.int x8), some (.int x9)] [] [] Γ σ := by
    intro g x7 x8 x9 hR
    refine x_iload d_Mo_areParts_80 rfl ?_
    exact x_ireturn d_Mo_areParts_82 rfl (by cases g <;> rfl) (by rw [hR]; exact hQ)
  have lp : ∀ (q k : Nat) (g : Bool), k ≤ n → n < k + q → (g = true → R = alF (fun k => Fm P zs ws (ends P zs (i + 1) k) (ends P ws (j + 1) k)) n k) → (g = false → R = false) → Wq G M_Mo_areParts (Em G (d + 3) 0 0 Q) 0 0 13 [some (rf G 391), some (.int (nI a)), some (.int (nI (40 * a + (i + 1)))), some (.int (nI b)), some (.int (nI (40 * b + (j + 1)))), some (.int (nI n)), some (.int (bI g)), some (.int (nI (40 * a + ends P zs (i + 1) k))), some (.int (nI (40 * b + ends P ws (j + 1) k))), some (.int (nI k))] [] [] Γ σ := by
    intro q
    induction q with
    | zero => intro k g hk1 hq; omega
    | succ q ih =>
    intro k g hk1 hq h1 h0
    refine x_iload d_Mo_areParts_13 rfl ?_
    refine x_iload d_Mo_areParts_15 rfl ?_
    refine x_icmp_ge (tgt := 80) d_Mo_areParts_17 (by decide) (fun c17 => ?_) (fun c17 => ?_)
    · refine tl g _ _ _ (by
        have e : n ≤ k := (nI_leI (by omega) (by omega)).mp c17
        cases g with
        | true => rw [h1 rfl, alF_n e]
        | false => rw [h0 rfl])
    · refine x_iload d_Mo_areParts_20 rfl ?_
      refine x_if_eq (tgt := 80) d_Mo_areParts_22 (by decide) (fun c22 => ?_) (fun c22 => ?_)
      · refine tl g _ _ _ (by rw [bI_0 c22, h0 (bI_0 c22)])
      · have hkn : k < n := Nat.not_le.mp fun z => c17 (nI_le z (by omega))
        have g1 := ends_lt hP (by omega) hi t6 (show k < nP P (zs.getD i (-1)) by omega)
        have g2 := ends_lt hP (by omega) hj t7 (show k < nP P (ws.getD j (-1)) by omega)
        obtain ⟨m1, hm1⟩ := full_sfx t6 g1.1
        obtain ⟨m2, hm2⟩ := full_sfx t7 g2.1
        have hg : g = true := bI_n0 c22
        first | refine x_aload_n d_Mo_areParts_25 rfl rfl ?_ | refine x_aloadN_n d_Mo_areParts_25 rfl rfl ?_ | refine x_aloadE_n d_Mo_areParts_25 rfl rfl ?_ | refine x_aloadO_n d_Mo_areParts_25 rfl rfl ?_
        refine x_getR d_Mo_areParts_26 f_Mo_98 rfl (by first | exact hM.1 | exact hM.s rfl | assumption) (hM.r rfl) ?_
        refine x_bipush (v := 40) d_Mo_areParts_29 (by decide) ?_
        refine x_iload d_Mo_areParts_31 rfl ?_
        refine x_bipush (v := 40) d_Mo_areParts_33 (by decide) ?_
        refine x_iload_n d_Mo_areParts_35 rfl rfl ?_
        refine x_imul d_Mo_areParts_36 ?_
        refine x_isub d_Mo_areParts_37 ?_
        rw [mul40, nI_sub (by omega), Nat.add_sub_cancel_left]
        refine x_imul d_Mo_areParts_38 ?_
        rw [mul40]
        refine x_iload d_Mo_areParts_39 rfl ?_
        refine x_iadd d_Mo_areParts_41 ?_
        rw [nI_add]
        refine x_bipush (v := 40) d_Mo_areParts_42 (by decide) ?_
        refine x_iload_n d_Mo_areParts_44 rfl rfl ?_
        refine x_imul d_Mo_areParts_45 ?_
        refine x_isub d_Mo_areParts_46 ?_
        rw [mul40, nI_sub (by omega), show 40 * ends P zs (i + 1) k + (40 * b + ends P ws (j + 1) k) - 40 * b = 40 * ends P zs (i + 1) k + ends P ws (j + 1) k by omega]
        refine x_zald d_Mo_areParts_47 (by first | exact hM.1 | exact hM.s rfl | assumption) (vp_in_nI (show 40 * ends P zs (i + 1) k + ends P ws (j + 1) k < 1600 by omega) (by decide)) ?_
        rw [nI_clamp (by omega), he k hkn]
        refine x_istore d_Mo_areParts_48 rfl ?_
        first | refine x_aload_n d_Mo_areParts_50 rfl rfl ?_ | refine x_aloadN_n d_Mo_areParts_50 rfl rfl ?_ | refine x_aloadE_n d_Mo_areParts_50 rfl rfl ?_ | refine x_aloadO_n d_Mo_areParts_50 rfl rfl ?_
        first | refine x_aload_n d_Mo_areParts_51 rfl rfl ?_ | refine x_aloadN_n d_Mo_areParts_51 rfl rfl ?_ | refine x_aloadE_n d_Mo_areParts_51 rfl rfl ?_ | refine x_aloadO_n d_Mo_areParts_51 rfl rfl ?_
        refine x_getR d_Mo_areParts_52 f_Mo_41 rfl (by first | exact hM.1 | exact hM.s rfl | assumption) (hM.r rfl) ?_
        refine x_iload d_Mo_areParts_55 rfl ?_
        refine x_callV2 d_Mo_areParts_57 k_Mo_end l_Mo_164 v_Mo_end rfl s_Mo_end (by first | exact hM.1 | exact hM.s rfl | assumption) RoomE.m (Nat.le_of_ble_eq_true rfl) (c_Mo_end (i := ends P zs (i + 1) k) (m := m1) hM (hM.s rfl) t4 (by omega) (by decide) t8 hm1 ?_)
        refine x_istore d_Mo_areParts_60 rfl ?_
        first | refine x_aload_n d_Mo_areParts_62 rfl rfl ?_ | refine x_aloadN_n d_Mo_areParts_62 rfl rfl ?_ | refine x_aloadE_n d_Mo_areParts_62 rfl rfl ?_ | refine x_aloadO_n d_Mo_areParts_62 rfl rfl ?_
        first | refine x_aload_n d_Mo_areParts_63 rfl rfl ?_ | refine x_aloadN_n d_Mo_areParts_63 rfl rfl ?_ | refine x_aloadE_n d_Mo_areParts_63 rfl rfl ?_ | refine x_aloadO_n d_Mo_areParts_63 rfl rfl ?_
        refine x_getR d_Mo_areParts_64 f_Mo_41 rfl (by first | exact hM.1 | exact hM.s rfl | assumption) (hM.r rfl) ?_
        refine x_iload d_Mo_areParts_67 rfl ?_
        refine x_callV2 d_Mo_areParts_69 k_Mo_end l_Mo_164 v_Mo_end rfl s_Mo_end (by first | exact hM.1 | exact hM.s rfl | assumption) RoomE.m (Nat.le_of_ble_eq_true rfl) (c_Mo_end (i := ends P ws (j + 1) k) (m := m2) hM (hM.s rfl) t5 (by omega) (by decide) t9 hm2 ?_)
        refine x_istore d_Mo_areParts_72 rfl ?_
        refine x_iinc (v := nI (k + 1)) d_Mo_areParts_74 rfl (nI_1 k) rfl ?_
        refine x_goto (tgt := 13) d_Mo_areParts_77 (by decide) ?_
        have e1 : ends P zs (i + 1) (k + 1) = ends P zs (i + 1) k + tk (nP P) 1 (zs.drop (ends P zs (i + 1) k)) := behind_tk hP (by omega) _
        have e2 : ends P ws (j + 1) (k + 1) = ends P ws (j + 1) k + tk (nP P) 1 (ws.drop (ends P ws (j + 1) k)) := behind_tk hP (by omega) _
        exact Wq.fg (ih (k + 1) _ (by omega) (by omega) (fun z => by rw [h1 hg, alF_s hkn, z, Bool.true_and]) (fun z => by rw [h1 hg, alF_s hkn, z, Bool.false_and])) ⟨rfl, rfl, rfl, rfl, rfl, rfl, rfl, by rw [e1, Nat.add_assoc], by rw [e2, Nat.add_assoc], rfl, trivial⟩
  refine Ct.of (lv := [some (rf G 391), some (.int (nI a)), some (.int (nI (40 * a + (i + 1)))), some (.int (nI b)), some (.int (nI (40 * b + (j + 1)))), some (.int (nI n)), none, none, none, none]) (ll := []) rfl rfl (EN.cat (n := 4) ⟨rfl, rfl, rfl, rfl, rfl, rfl, trivial⟩ (Nat.le_of_ble_eq_true rfl)) ?_
  refine x_iconst (v := 1) d_Mo_areParts_0 (by decide) ?_
  refine x_istore d_Mo_areParts_1 rfl ?_
  refine x_iload_n d_Mo_areParts_3 rfl rfl ?_
  refine x_istore d_Mo_areParts_4 rfl ?_
  refine x_iload d_Mo_areParts_6 rfl ?_
  refine x_istore d_Mo_areParts_8 rfl ?_
  refine x_iconst (v := 0) d_Mo_areParts_10 (by decide) ?_
  refine x_istore d_Mo_areParts_11 rfl ?_
  exact Wq.fg (lp (n + 1) 0 true (by omega) (by omega) (fun _ => hRR.symm) (fun z => by cases z)) ⟨rfl, rfl, rfl, rfl, rfl, rfl, rfl, rfl, rfl, by rw [nI_0], trivial⟩
