theorem wI_o {σ : Mem} {a b j : Nat} {v : Int32} (h : b ≠ a) : (wI σ a j v).1 b = σ.1 b := by funext i; simp [wI, h]
theorem wI_s {σ : Mem} {a j : Nat} {v : Int32} : (wI σ a j v).1 a j = v := by simp [wI]
theorem wI_j {σ : Mem} {a i j : Nat} {v : Int32} (h : i ≠ j) : (wI σ a j v).1 a i = σ.1 a i := by simp [wI, h]
theorem wC_o {σ : Mem} {a b : Nat} {f : Nat → Int32} (h : b ≠ a) : (wC σ a f).1 b = σ.1 b := by funext i; simp [wC, h]
theorem wC_s {σ : Mem} {a : Nat} {f : Nat → Int32} : (wC σ a f).1 a = f := by funext i; simp [wC]
theorem isRow.sh {Γ : List Sh} {σ : Mem} {r n : Nat} {ys : List Int32} (h : isRow Γ σ r n ys) : r ≠ r + 1 := by omega
theorem isRow.clr {Γ : List Sh} {σ : Mem} {r n : Nat} {ys : List Int32} (h : isRow Γ σ r n ys) : isRow Γ (wI (wI σ r 1 0) r 2 0) r n [] := by
  obtain ⟨a1, a2, a3, a4, a5, a6, a7⟩ := h
  refine ⟨a1, a2, a3, a4, ?_, fun i hi => by simp at hi, ?_⟩
  · simp [wI, nI]
  · simp [wI, bI]
theorem isRow.fit {Γ : List Sh} {σ : Mem} {r n : Nat} {ys : List Int32} {x : Int32} (h : isRow Γ σ r n ys) (hl : ys.length < n) : isRow Γ (wI (wI σ (r + 1) (σ.1 r 1).toNatClampNeg x) r 1 (σ.1 r 1 + 1)) r n (ys ++ [x]) := by
  obtain ⟨a1, a2, a3, a4, a5, a6, a7⟩ := h
  have t1 : ys.take n = ys := List.take_of_length_le (by omega)
  have t2 : (ys ++ [x]).take n = ys ++ [x] := List.take_of_length_le (by simp; omega)
  rw [t1] at a5 a6
  refine ⟨a1, a2, a3, a4, ?_, fun i hi => ?_, ?_⟩
  · rw [t2, a5, nI_1]
    simp [wI]
  · rw [t2] at hi ⊢
    rw [a5, nI_clamp (by omega)]
    simp at hi
    by_cases e : i = ys.length
    · subst e
      simp [wI]
    · have hi2 : i < ys.length := by omega
      have := a6 i hi2
      simp [wI, e, this, List.getElem?_append_left hi2]
  · have h1 : ¬ n < ys.length := by omega
    have h2 : ¬ n < (ys ++ [x]).length := by simp; omega
    rw [bI_f h1] at a7
    rw [bI_f h2]
    simp [wI, a7]
theorem isRow.over {Γ : List Sh} {σ : Mem} {r n : Nat} {ys zs : List Int32} (h : isRow Γ σ r n ys) (hl : n ≤ ys.length) (hz : zs ≠ []) : isRow Γ (wI σ r 2 1) r n (ys ++ zs) := by
  obtain ⟨a1, a2, a3, a4, a5, a6, a7⟩ := h
  have t2 : (ys ++ zs).take n = ys.take n := List.take_append_of_le_length hl
  have hz2 : 0 < zs.length := List.length_pos_iff.mpr hz
  refine ⟨a1, a2, a3, a4, ?_, fun i hi => ?_, ?_⟩
  · rw [t2]; simp [wI, a5]
  · rw [t2] at hi ⊢
    rw [← a6 i hi]
    simp [wI]
  · rw [bI_t (by simp; omega)]
    simp [wI]
theorem isRow.len {Γ : List Sh} {σ : Mem} {r n : Nat} {ys : List Int32} (h : isRow Γ σ r n ys) : σ.1 r 1 = nI (min n ys.length) := by
  rw [h.2.2.2.2.1, List.length_take]
theorem isRow.full {Γ : List Sh} {σ : Mem} {r n : Nat} {ys : List Int32} (h : isRow Γ σ r n ys) : Int32.ofNat n ≤ σ.1 r 1 ↔ n ≤ ys.length := by
  have h4 := h.2.2.2.1
  rw [h.len]
  show nI n ≤ nI _ ↔ _
  rw [nI_leI (by omega) (by omega)]
  omega
theorem isRow.neg {Γ : List Sh} {σ : Mem} {r n : Nat} {ys : List Int32} (h : isRow Γ σ r n ys) : ¬ σ.1 r 1 < 0 := by
  have h4 := h.2.2.2.1
  rw [h.len]
  exact nI_pos (by omega)
set_option maxRecDepth 10000 in
theorem c_Row_clear {G : Ctx} {d : Nat} {Γ : List Sh} {σ : Mem} {Q : Option Value → List Sh → Mem → Prop} {r n : Nat} {ys : List Int32} (hR : isRow Γ σ r n ys) (hQ : ∀ σ', isRow Γ σ' r n [] → FrI [r] σ σ' → Q none Γ σ') : Ct G M_Row_clear d 0 0 [rf G r] Γ σ Q := by
  obtain ⟨a1, a2, a3, a4, a5, a6, a7⟩ := id hR
  refine Ct.of (lv := [some (rf G r)]) (ll := []) rfl rfl (EN.cat (n := 0) ⟨rfl, trivial⟩ (Nat.le_of_ble_eq_true rfl)) ?_
  first | refine x_aload_n d_Row_clear_0 rfl rfl ?_ | refine x_aloadN_n d_Row_clear_0 rfl rfl ?_ | refine x_aloadE_n d_Row_clear_0 rfl rfl ?_
  refine x_iconst (v := 0) d_Row_clear_1 (by decide) ?_
  refine x_putI d_Row_clear_2 (w_Row_m_21 _) rfl (by first | rfl | decide) (by first | rfl | decide) (by assumption) ?_
  first | refine x_aload_n d_Row_clear_5 rfl rfl ?_ | refine x_aloadN_n d_Row_clear_5 rfl rfl ?_ | refine x_aloadE_n d_Row_clear_5 rfl rfl ?_
  refine x_iconst (v := 0) d_Row_clear_6 (by decide) ?_
  refine x_putI d_Row_clear_7 (w_Row_m_25 _) rfl (by first | rfl | decide) (by first | rfl | decide) (by assumption) ?_
  exact x_return d_Row_clear_10 rfl (hQ _ hR.clr ((FrI.rf.put (List.mem_singleton.mpr rfl)).put (List.mem_singleton.mpr rfl)))
set_option maxRecDepth 10000 in
theorem c_Row_add {G : Ctx} {d : Nat} {Γ : List Sh} {σ : Mem} {Q : Option Value → List Sh → Mem → Prop} {r n : Nat} {ys : List Int32} {x : Int32} (hR : isRow Γ σ r n ys) (hQ : ∀ σ', isRow Γ σ' r n (ys ++ [x]) → FrI [r, r + 1] σ σ' → Q none Γ σ') : Ct G M_Row_add d 0 0 [rf G r, .int x] Γ σ Q := by
  obtain ⟨a1, a2, a3, a4, a5, a6, a7⟩ := id hR
  refine Ct.of (lv := [some (rf G r), some (.int x)]) (ll := []) rfl rfl (EN.cat (n := 0) ⟨rfl, rfl, trivial⟩ (Nat.le_of_ble_eq_true rfl)) ?_
  first | refine x_aload_n d_Row_add_0 rfl rfl ?_ | refine x_aloadN_n d_Row_add_0 rfl rfl ?_ | refine x_aloadE_n d_Row_add_0 rfl rfl ?_
  refine x_getI d_Row_add_1 f_Row_21 rfl (by assumption) ?_
  refine x_if_lt (tgt := 42) d_Row_add_4 (by decide) (fun c4 => ?_) (fun c4 => ?_)
  · first | refine x_aload_n d_Row_add_42 rfl rfl ?_ | refine x_aloadN_n d_Row_add_42 rfl rfl ?_ | refine x_aloadE_n d_Row_add_42 rfl rfl ?_
    refine x_iconst (v := 1) d_Row_add_43 (by decide) ?_
    refine x_putI d_Row_add_44 (w_Row_m_25 _) rfl (by first | rfl | decide) (by first | rfl | decide) (by assumption) ?_
    exact x_return d_Row_add_47 rfl (by
      first
      | exact absurd c4 hR.neg
      | exact hQ _ (hR.over (hR.full.mp c16) (by simp)) (FrI.rf.put (by simp))
      | exact hQ _ (by rw [wI_o (by omega)]; exact hR.fit (Nat.not_le.mp fun z => c16 (hR.full.mpr z))) ((FrI.rf.put (by simp)).put (by simp)))
  · first | refine x_aload_n d_Row_add_7 rfl rfl ?_ | refine x_aloadN_n d_Row_add_7 rfl rfl ?_ | refine x_aloadE_n d_Row_add_7 rfl rfl ?_
    refine x_getI d_Row_add_8 f_Row_21 rfl (by assumption) ?_
    first | refine x_aload_n d_Row_add_11 rfl rfl ?_ | refine x_aloadN_n d_Row_add_11 rfl rfl ?_ | refine x_aloadE_n d_Row_add_11 rfl rfl ?_
    refine x_getR d_Row_add_12 f_Row_15 rfl (by assumption) (by assumption) ?_
    refine x_alen d_Row_add_15 (by assumption) (by decide) rfl ?_
    refine x_icmp_ge (tgt := 42) d_Row_add_16 (by decide) (fun c16 => ?_) (fun c16 => ?_)
    · first | refine x_aload_n d_Row_add_42 rfl rfl ?_ | refine x_aloadN_n d_Row_add_42 rfl rfl ?_ | refine x_aloadE_n d_Row_add_42 rfl rfl ?_
      refine x_iconst (v := 1) d_Row_add_43 (by decide) ?_
      refine x_putI d_Row_add_44 (w_Row_m_25 _) rfl (by first | rfl | decide) (by first | rfl | decide) (by assumption) ?_
      exact x_return d_Row_add_47 rfl (by
        first
        | exact absurd c4 hR.neg
        | exact hQ _ (hR.over (hR.full.mp c16) (by simp)) (FrI.rf.put (by simp))
        | exact hQ _ (by rw [wI_o (by omega)]; exact hR.fit (Nat.not_le.mp fun z => c16 (hR.full.mpr z))) ((FrI.rf.put (by simp)).put (by simp)))
    · first | refine x_aload_n d_Row_add_19 rfl rfl ?_ | refine x_aloadN_n d_Row_add_19 rfl rfl ?_ | refine x_aloadE_n d_Row_add_19 rfl rfl ?_
      refine x_getR d_Row_add_20 f_Row_15 rfl (by assumption) (by assumption) ?_
      first | refine x_aload_n d_Row_add_23 rfl rfl ?_ | refine x_aloadN_n d_Row_add_23 rfl rfl ?_ | refine x_aloadE_n d_Row_add_23 rfl rfl ?_
      refine x_getI d_Row_add_24 f_Row_21 rfl (by assumption) ?_
      refine x_iload_n d_Row_add_27 rfl rfl ?_
      refine x_iast d_Row_add_28 (by assumption) (atx a2 a4 c4 c16) ?_
      first | refine x_aload_n d_Row_add_29 rfl rfl ?_ | refine x_aloadN_n d_Row_add_29 rfl rfl ?_ | refine x_aloadE_n d_Row_add_29 rfl rfl ?_
      refine x_dup d_Row_add_30 rfl ?_
      refine x_getI d_Row_add_31 f_Row_21 rfl (by assumption) ?_
      refine x_iconst (v := 1) d_Row_add_34 (by decide) ?_
      refine x_iadd d_Row_add_35 ?_
      refine x_putI d_Row_add_36 (w_Row_m_21 _) rfl (by first | rfl | decide) (by first | rfl | decide) (by assumption) ?_
      refine x_goto (tgt := 47) d_Row_add_39 (by decide) ?_
      exact x_return d_Row_add_47 rfl (by
        first
        | exact absurd c4 hR.neg
        | exact hQ _ (hR.over (hR.full.mp c16) (by simp)) (FrI.rf.put (by simp))
        | exact hQ _ (by rw [wI_o (by omega)]; exact hR.fit (Nat.not_le.mp fun z => c16 (hR.full.mpr z))) ((FrI.rf.put (by simp)).put (by simp)))
theorem FrI.putC {S : List Nat} {σ σ' : Mem} {a : Nat} {f : Nat → Int32} (h : FrI S σ σ') (ha : a ∈ S) : FrI S σ (wC σ' a f) :=
  ⟨h.1, fun b hb => by rw [wC_o (show b ≠ a from fun z => hb (by rw [z]; exact ha))]; exact h.2 b hb⟩
theorem isRow.cpy {Γ : List Sh} {σ : Mem} {r n f : Nat} {ys zs : List Int32} {src : Nat → Int32} (h : isRow Γ σ r n ys) (hk : ys.length + zs.length ≤ n) (hz : ∀ i, i < zs.length → src (f + i) = zs.getD i 0) :
    isRow Γ (wI (wC σ (r + 1) (va_cpy src (σ.1 (r + 1)) f ys.length zs.length)) r 1 (nI (ys.length + zs.length))) r n (ys ++ zs) := by
  obtain ⟨a1, a2, a3, a4, a5, a6, a7⟩ := h
  have t1 : ys.take n = ys := List.take_of_length_le (by omega)
  have t2 : (ys ++ zs).take n = ys ++ zs := List.take_of_length_le (by simp; omega)
  rw [t1] at a5 a6
  refine ⟨a1, a2, a3, a4, ?_, fun i hi => ?_, ?_⟩
  · rw [t2, wI_s, List.length_append]
  · rw [t2] at hi ⊢
    rw [wI_o (by omega), wC_s]
    simp at hi
    by_cases e : i < ys.length
    · rw [pk_cpy_out (Or.inl e), a6 i e]
      simp [List.getElem?_append_left e]
    · rw [pk_cpy_in (by omega) (by omega), hz _ (by omega)]
      simp [List.getElem?_append_right (show ys.length ≤ i by omega)]
  · have h1 : ¬ n < ys.length := by omega
    have h2 : ¬ n < (ys ++ zs).length := by simp; omega
    rw [bI_f h1] at a7
    rw [bI_f h2, wI_j (by decide), wC_o (by omega)]
    exact a7
theorem sl_cases {t f : Nat} {zs : List Int32} {wv : Int32} (hz : zs.length ≤ 1000000) (ht : t ≤ 1000000) (hf : f ≤ 1000000) (hw : (if nI zs.length < nI t then nI zs.length else nI t) - nI f = wv) :
    (wv ≤ 0 ∧ (zs.take t).drop f = []) ∨ (∃ w, wv = nI w ∧ 0 < w ∧ w ≤ 1000000 ∧ ((zs.take t).drop f).length = w ∧ f + w ≤ zs.length) := by
  have hm : (if nI zs.length < nI t then nI zs.length else nI t) = nI (min t zs.length) := by
    split
    · next h => rw [nI_ltI (by omega) (by omega)] at h; rw [show min t zs.length = zs.length by omega]
    · next h => rw [nI_ltI (by omega) (by omega)] at h; rw [show min t zs.length = t by omega]
  rw [hm] at hw
  by_cases hc : f < min t zs.length
  · refine Or.inr ⟨min t zs.length - f, ?_, by omega, by omega, by simp, by omega⟩
    rw [← hw, pk_sub (by omega)]
  · refine Or.inl ⟨?_, List.drop_eq_nil_of_le (by simp; omega)⟩
    rw [← hw, Int32.le_iff_toInt_le, pk_sub_toInt (by omega) (by omega), Int32.toInt_zero]
    omega
theorem sl_at {Γ : List Sh} {σ : Mem} {r2 m t f k : Nat} {os : List Int32} (h : isRow Γ σ r2 m os) (hk : k ≤ (((os.take m).take t).drop f).length) : ∀ i, i < ((((os.take m).take t).drop f).take k).length → σ.1 (r2 + 1) (f + i) = ((((os.take m).take t).drop f).take k).getD i 0 := by
  intro i hi
  have hi1 : f + i < (os.take m).length := by
    simp only [List.length_take, List.length_drop] at hi ⊢
    omega
  rw [h.2.2.2.2.2.1 (f + i) hi1]
  generalize os.take m = zs at hi hk ⊢
  simp only [List.getD_eq_getElem?_getD]
  simp at hi hk
  rw [List.getElem?_take, if_pos (by omega), List.getElem?_drop, List.getElem?_take, if_pos (by omega)]
set_option maxRecDepth 10000 in
set_option maxHeartbeats 1000000 in
theorem c_Row_addRange {G : Ctx} {d : Nat} {Γ : List Sh} {σ : Mem} {Q : Option Value → List Sh → Mem → Prop} {r n r2 m f t : Nat} {ys os : List Int32} (hR : isRow Γ σ r n ys) (hO : isRow Γ σ r2 m os) (hne : r2 ≠ r) (hf : f ≤ 1000000) (ht : t ≤ 1000000) (hQ : ∀ σ', isRow Γ σ' r n (ys ++ ((os.take m).take t).drop f) → FrI [r, r + 1] σ σ' → Q none Γ σ') : Ct G M_Row_addRange (d + 1) 0 0 [rf G r, rf G r2, .int (nI f), .int (nI t)] Γ σ Q := by
  obtain ⟨a1, a2, a3, a4, a5, a6, a7⟩ := id hR
  obtain ⟨o1, o2, o3, o4, o5, o6, o7⟩ := id hO
  refine Ct.of (lv := [some (rf G r), some (rf G r2), some (.int (nI f)), some (.int (nI t)), none, none, none]) (ll := []) rfl rfl (EN.cat (n := 3) ⟨rfl, rfl, rfl, rfl, trivial⟩ (Nat.le_of_ble_eq_true rfl)) ?_
  obtain ⟨wv, ewv⟩ : ∃ wv, (if nI (os.take m).length < nI t then nI (os.take m).length else nI t) - nI f = wv := ⟨_, rfl⟩
  rcases sl_cases (by simp; omega) ht hf ewv with ⟨hA1, hA3⟩ | ⟨w, ew, hw0, hwm, hB6, hk1⟩
  · have hA2 : ¬ nI (n - (ys.take n).length) < wv := fun z => absurd (Int32.lt_of_lt_of_le z hA1) (nI_pos (by omega))
    refine x_iload_n d_Row_addRange_0 rfl rfl ?_
    refine x_iconst (v := 0) d_Row_addRange_1 (by decide) ?_
    refine x_mmax d_Row_addRange_2 l_Row_9 z_mmax ini_Math k_mmax RoomL.m (Nat.le_of_ble_eq_true rfl) ?_
    refine x_istore d_Row_addRange_5 rfl ?_
    rw [if_neg (nI_pos (by omega))]
    refine x_iload_n d_Row_addRange_7 rfl rfl ?_
    first | refine x_aload_n d_Row_addRange_8 rfl rfl ?_ | refine x_aloadN_n d_Row_addRange_8 rfl rfl ?_ | refine x_aloadE_n d_Row_addRange_8 rfl rfl ?_
    refine x_getI d_Row_addRange_9 f_Row_21 rfl (by assumption) ?_
    refine x_mmin d_Row_addRange_12 l_Row_29 z_mmin ini_Math k_mmin RoomL.m (Nat.le_of_ble_eq_true rfl) ?_
    refine x_iload d_Row_addRange_15 rfl ?_
    refine x_isub d_Row_addRange_17 ?_
    rw [o5]
    rw [ewv]
    refine x_istore d_Row_addRange_18 rfl ?_
    refine x_iload d_Row_addRange_20 rfl ?_
    first | refine x_aload_n d_Row_addRange_22 rfl rfl ?_ | refine x_aloadN_n d_Row_addRange_22 rfl rfl ?_ | refine x_aloadE_n d_Row_addRange_22 rfl rfl ?_
    refine x_getR d_Row_addRange_23 f_Row_15 rfl (by assumption) (by assumption) ?_
    refine x_alen d_Row_addRange_26 (by assumption) (by decide) rfl ?_
    first | refine x_aload_n d_Row_addRange_27 rfl rfl ?_ | refine x_aloadN_n d_Row_addRange_27 rfl rfl ?_ | refine x_aloadE_n d_Row_addRange_27 rfl rfl ?_
    refine x_getI d_Row_addRange_28 f_Row_21 rfl (by assumption) ?_
    refine x_isub d_Row_addRange_31 ?_
    refine x_mmin d_Row_addRange_32 l_Row_29 z_mmin ini_Math k_mmin RoomL.m (Nat.le_of_ble_eq_true rfl) ?_
    rw [a5]
    rw [show Int32.ofNat n - nI (ys.take n).length = nI (n - (ys.take n).length) from pk_sub (by simp; omega)]
    refine x_istore d_Row_addRange_35 rfl ?_
    refine x_iload d_Row_addRange_37 rfl ?_
    rw [if_neg hA2]
    refine x_if_le (tgt := 72) d_Row_addRange_39 (by decide) (fun c39 => ?_) (fun c39 => ?_)
    · refine x_iload d_Row_addRange_72 rfl ?_
      refine x_iload d_Row_addRange_74 rfl ?_
      refine x_icmp_le (tgt := 84) d_Row_addRange_76 (by decide) (fun c76 => ?_) (fun c76 => ?_)
      · exact x_return d_Row_addRange_84 rfl (by first | exact hQ _ (by rw [hA3, List.append_nil]; exact hR) FrI.rf | exact absurd (Int32.le_refl _) c76)
      · first | refine x_aload_n d_Row_addRange_79 rfl rfl ?_ | refine x_aloadN_n d_Row_addRange_79 rfl rfl ?_ | refine x_aloadE_n d_Row_addRange_79 rfl rfl ?_
        refine x_iconst (v := 1) d_Row_addRange_80 (by decide) ?_
        refine x_putI d_Row_addRange_81 (w_Row_m_25 _) rfl (by first | rfl | decide) (by first | rfl | decide) (by assumption) ?_
        exact x_return d_Row_addRange_84 rfl (by first | exact hQ _ (by rw [hA3, List.append_nil]; exact hR) FrI.rf | exact absurd (Int32.le_refl _) c76)
    · exact absurd hA1 c39
  · subst ew
    by_cases hsp : n ≤ ys.length
    · have hL : n - (ys.take n).length = 0 := by simp; omega
      have hB2 : nI (n - (ys.take n).length) < nI w := by rw [hL, nI_ltI (by omega) (by omega)]; exact hw0
      have hB3 : nI (n - (ys.take n).length) ≤ 0 := by rw [hL, nI_0]; exact Int32.le_refl _
      have hB4 : ¬ nI w ≤ nI (n - (ys.take n).length) := by rw [hL, nI_leI (by omega) (by omega)]; omega
      have hB5 := hsp
      have hB6' : ((os.take m).take t).drop f ≠ [] := fun z => by rw [z] at hB6; simp at hB6; omega
      refine x_iload_n d_Row_addRange_0 rfl rfl ?_
      refine x_iconst (v := 0) d_Row_addRange_1 (by decide) ?_
      refine x_mmax d_Row_addRange_2 l_Row_9 z_mmax ini_Math k_mmax RoomL.m (Nat.le_of_ble_eq_true rfl) ?_
      refine x_istore d_Row_addRange_5 rfl ?_
      rw [if_neg (nI_pos (by omega))]
      refine x_iload_n d_Row_addRange_7 rfl rfl ?_
      first | refine x_aload_n d_Row_addRange_8 rfl rfl ?_ | refine x_aloadN_n d_Row_addRange_8 rfl rfl ?_ | refine x_aloadE_n d_Row_addRange_8 rfl rfl ?_
      refine x_getI d_Row_addRange_9 f_Row_21 rfl (by assumption) ?_
      refine x_mmin d_Row_addRange_12 l_Row_29 z_mmin ini_Math k_mmin RoomL.m (Nat.le_of_ble_eq_true rfl) ?_
      refine x_iload d_Row_addRange_15 rfl ?_
      refine x_isub d_Row_addRange_17 ?_
      rw [o5]
      rw [ewv]
      refine x_istore d_Row_addRange_18 rfl ?_
      refine x_iload d_Row_addRange_20 rfl ?_
      first | refine x_aload_n d_Row_addRange_22 rfl rfl ?_ | refine x_aloadN_n d_Row_addRange_22 rfl rfl ?_ | refine x_aloadE_n d_Row_addRange_22 rfl rfl ?_
      refine x_getR d_Row_addRange_23 f_Row_15 rfl (by assumption) (by assumption) ?_
      refine x_alen d_Row_addRange_26 (by assumption) (by decide) rfl ?_
      first | refine x_aload_n d_Row_addRange_27 rfl rfl ?_ | refine x_aloadN_n d_Row_addRange_27 rfl rfl ?_ | refine x_aloadE_n d_Row_addRange_27 rfl rfl ?_
      refine x_getI d_Row_addRange_28 f_Row_21 rfl (by assumption) ?_
      refine x_isub d_Row_addRange_31 ?_
      refine x_mmin d_Row_addRange_32 l_Row_29 z_mmin ini_Math k_mmin RoomL.m (Nat.le_of_ble_eq_true rfl) ?_
      rw [a5]
      rw [show Int32.ofNat n - nI (ys.take n).length = nI (n - (ys.take n).length) from pk_sub (by simp; omega)]
      refine x_istore d_Row_addRange_35 rfl ?_
      refine x_iload d_Row_addRange_37 rfl ?_
      rw [if_pos hB2]
      refine x_if_le (tgt := 72) d_Row_addRange_39 (by decide) (fun c39 => ?_) (fun c39 => ?_)
      · refine x_iload d_Row_addRange_72 rfl ?_
        refine x_iload d_Row_addRange_74 rfl ?_
        refine x_icmp_le (tgt := 84) d_Row_addRange_76 (by decide) (fun c76 => ?_) (fun c76 => ?_)
        · exact x_return d_Row_addRange_84 rfl (by first | exact absurd c76 hB4 | exact hQ _ (hR.over hB5 hB6') (FrI.rf.put (by simp)))
        · first | refine x_aload_n d_Row_addRange_79 rfl rfl ?_ | refine x_aloadN_n d_Row_addRange_79 rfl rfl ?_ | refine x_aloadE_n d_Row_addRange_79 rfl rfl ?_
          refine x_iconst (v := 1) d_Row_addRange_80 (by decide) ?_
          refine x_putI d_Row_addRange_81 (w_Row_m_25 _) rfl (by first | rfl | decide) (by first | rfl | decide) (by assumption) ?_
          exact x_return d_Row_addRange_84 rfl (by first | exact absurd c76 hB4 | exact hQ _ (hR.over hB5 hB6') (FrI.rf.put (by simp)))
      · exact absurd hB3 c39
    · obtain ⟨k, ek⟩ : ∃ k, k = min w (n - (ys.take n).length) := ⟨_, rfl⟩
      have hys : (ys.take n).length = ys.length := by simp; omega
      have hk2 : (ys.take n).length + k ≤ n := by omega
      have hkl : ((((os.take m).take t).drop f).take k).length = k := by rw [List.length_take, hB6]; omega
      have hB2 : (if nI (n - (ys.take n).length) < nI w then nI (n - (ys.take n).length) else nI w) = nI k := by
        split
        · next h => rw [nI_ltI (by omega) (by omega)] at h; rw [ek]; congr 1; omega
        · next h => rw [nI_ltI (by omega) (by omega)] at h; rw [ek]; congr 1; omega
      have hB3 : ¬ nI k ≤ 0 := nI_nle (by omega) (by omega)
      refine x_iload_n d_Row_addRange_0 rfl rfl ?_
      refine x_iconst (v := 0) d_Row_addRange_1 (by decide) ?_
      refine x_mmax d_Row_addRange_2 l_Row_9 z_mmax ini_Math k_mmax RoomL.m (Nat.le_of_ble_eq_true rfl) ?_
      refine x_istore d_Row_addRange_5 rfl ?_
      rw [if_neg (nI_pos (by omega))]
      refine x_iload_n d_Row_addRange_7 rfl rfl ?_
      first | refine x_aload_n d_Row_addRange_8 rfl rfl ?_ | refine x_aloadN_n d_Row_addRange_8 rfl rfl ?_ | refine x_aloadE_n d_Row_addRange_8 rfl rfl ?_
      refine x_getI d_Row_addRange_9 f_Row_21 rfl (by assumption) ?_
      refine x_mmin d_Row_addRange_12 l_Row_29 z_mmin ini_Math k_mmin RoomL.m (Nat.le_of_ble_eq_true rfl) ?_
      refine x_iload d_Row_addRange_15 rfl ?_
      refine x_isub d_Row_addRange_17 ?_
      rw [o5]
      rw [ewv]
      refine x_istore d_Row_addRange_18 rfl ?_
      refine x_iload d_Row_addRange_20 rfl ?_
      first | refine x_aload_n d_Row_addRange_22 rfl rfl ?_ | refine x_aloadN_n d_Row_addRange_22 rfl rfl ?_ | refine x_aloadE_n d_Row_addRange_22 rfl rfl ?_
      refine x_getR d_Row_addRange_23 f_Row_15 rfl (by assumption) (by assumption) ?_
      refine x_alen d_Row_addRange_26 (by assumption) (by decide) rfl ?_
      first | refine x_aload_n d_Row_addRange_27 rfl rfl ?_ | refine x_aloadN_n d_Row_addRange_27 rfl rfl ?_ | refine x_aloadE_n d_Row_addRange_27 rfl rfl ?_
      refine x_getI d_Row_addRange_28 f_Row_21 rfl (by assumption) ?_
      refine x_isub d_Row_addRange_31 ?_
      refine x_mmin d_Row_addRange_32 l_Row_29 z_mmin ini_Math k_mmin RoomL.m (Nat.le_of_ble_eq_true rfl) ?_
      rw [a5]
      rw [show Int32.ofNat n - nI (ys.take n).length = nI (n - (ys.take n).length) from pk_sub (by simp; omega)]
      refine x_istore d_Row_addRange_35 rfl ?_
      refine x_iload d_Row_addRange_37 rfl ?_
      rw [hB2]
      refine x_if_le (tgt := 72) d_Row_addRange_39 (by decide) (fun c39 => ?_) (fun c39 => ?_)
      · exact absurd c39 hB3
      · first | refine x_aload_n d_Row_addRange_42 rfl rfl ?_ | refine x_aloadN_n d_Row_addRange_42 rfl rfl ?_ | refine x_aloadE_n d_Row_addRange_42 rfl rfl ?_
        refine x_getR d_Row_addRange_43 f_Row_15 rfl (by assumption) (by assumption) ?_
        refine x_iload d_Row_addRange_46 rfl ?_
        first | refine x_aload_n d_Row_addRange_48 rfl rfl ?_ | refine x_aloadN_n d_Row_addRange_48 rfl rfl ?_ | refine x_aloadE_n d_Row_addRange_48 rfl rfl ?_
        refine x_getR d_Row_addRange_49 f_Row_15 rfl (by assumption) (by assumption) ?_
        first | refine x_aload_n d_Row_addRange_52 rfl rfl ?_ | refine x_aloadN_n d_Row_addRange_52 rfl rfl ?_ | refine x_aloadE_n d_Row_addRange_52 rfl rfl ?_
        refine x_getI d_Row_addRange_53 f_Row_21 rfl (by assumption) ?_
        refine x_iload d_Row_addRange_56 rfl ?_
        refine x_copyi d_Row_addRange_58 l_Row_32 nt_copy z_copy ini_System (by assumption) (by assumption) (nI_pos (by omega)) hR.neg (nI_pos (by omega)) (by rw [nI_clamp (by omega), nI_clamp (by omega)]; have := o4; simp at hB6 hk1; omega) (by rw [a5, nI_clamp (by simp; omega), nI_clamp (by omega)]; simp at hk2 ⊢; omega) RoomL.m (Nat.le_of_ble_eq_true rfl) ?_
        first | refine x_aload_n d_Row_addRange_61 rfl rfl ?_ | refine x_aloadN_n d_Row_addRange_61 rfl rfl ?_ | refine x_aloadE_n d_Row_addRange_61 rfl rfl ?_
        refine x_dup d_Row_addRange_62 rfl ?_
        refine x_getI d_Row_addRange_63 f_Row_21 rfl (by assumption) ?_
        refine x_iload d_Row_addRange_66 rfl ?_
        refine x_iadd d_Row_addRange_68 ?_
        refine x_putI d_Row_addRange_69 (w_Row_m_21 _) rfl (by first | rfl | decide) (by first | rfl | decide) (by assumption) ?_
        refine x_iload d_Row_addRange_72 rfl ?_
        refine x_iload d_Row_addRange_74 rfl ?_
        refine x_icmp_le (tgt := 84) d_Row_addRange_76 (by decide) (fun c76 => ?_) (fun c76 => ?_)
        · exact x_return d_Row_addRange_84 rfl (by
            have hfin : isRow Γ (wI (wC σ (r + 1) (va_cpy (σ.1 (r2 + 1)) (σ.1 (r + 1)) (nI f).toNatClampNeg (σ.1 r 1).toNatClampNeg (nI k).toNatClampNeg)) r 1 ((wC σ (r + 1) (va_cpy (σ.1 (r2 + 1)) (σ.1 (r + 1)) (nI f).toNatClampNeg (σ.1 r 1).toNatClampNeg (nI k).toNatClampNeg)).1 r 1 + nI k)) r n (ys ++ (((os.take m).take t).drop f).take k) := by
              rw [wC_o (by omega), a5, nI_clamp (by simp; omega), nI_clamp (by omega), nI_clamp (by omega), hys, nI_add]
              have h8 := hR.cpy (zs := (((os.take m).take t).drop f).take k) (f := f) (by rw [hkl]; omega) (sl_at hO (by omega))
              rw [hkl] at h8
              exact h8
            have hfr : FrI [r, r + 1] σ (wI (wC σ (r + 1) (va_cpy (σ.1 (r2 + 1)) (σ.1 (r + 1)) (nI f).toNatClampNeg (σ.1 r 1).toNatClampNeg (nI k).toNatClampNeg)) r 1 ((wC σ (r + 1) (va_cpy (σ.1 (r2 + 1)) (σ.1 (r + 1)) (nI f).toNatClampNeg (σ.1 r 1).toNatClampNeg (nI k).toNatClampNeg)).1 r 1 + nI k)) := (FrI.rf.putC (by simp)).put (by simp)
            rw [nI_leI (by omega) (by omega)] at c76
            first
            | exact hQ _ (by rw [List.take_of_length_le (by omega)] at hfin; exact hfin) hfr
            | exact hQ _ (by
                have h9 := hfin.over (zs := (((os.take m).take t).drop f).drop k) (by simp only [List.length_append, hkl]; omega) (by intro z; have := List.length_drop (i := k) (l := ((os.take m).take t).drop f); rw [z] at this; simp only [List.length_nil] at this; omega)
                rw [List.append_assoc, List.take_append_drop] at h9
                exact h9) (hfr.put (by simp)))
        · first | refine x_aload_n d_Row_addRange_79 rfl rfl ?_ | refine x_aloadN_n d_Row_addRange_79 rfl rfl ?_ | refine x_aloadE_n d_Row_addRange_79 rfl rfl ?_
          refine x_iconst (v := 1) d_Row_addRange_80 (by decide) ?_
          refine x_putI d_Row_addRange_81 (w_Row_m_25 _) rfl (by first | rfl | decide) (by first | rfl | decide) (by assumption) ?_
          exact x_return d_Row_addRange_84 rfl (by
            have hfin : isRow Γ (wI (wC σ (r + 1) (va_cpy (σ.1 (r2 + 1)) (σ.1 (r + 1)) (nI f).toNatClampNeg (σ.1 r 1).toNatClampNeg (nI k).toNatClampNeg)) r 1 ((wC σ (r + 1) (va_cpy (σ.1 (r2 + 1)) (σ.1 (r + 1)) (nI f).toNatClampNeg (σ.1 r 1).toNatClampNeg (nI k).toNatClampNeg)).1 r 1 + nI k)) r n (ys ++ (((os.take m).take t).drop f).take k) := by
              rw [wC_o (by omega), a5, nI_clamp (by simp; omega), nI_clamp (by omega), nI_clamp (by omega), hys, nI_add]
              have h8 := hR.cpy (zs := (((os.take m).take t).drop f).take k) (f := f) (by rw [hkl]; omega) (sl_at hO (by omega))
              rw [hkl] at h8
              exact h8
            have hfr : FrI [r, r + 1] σ (wI (wC σ (r + 1) (va_cpy (σ.1 (r2 + 1)) (σ.1 (r + 1)) (nI f).toNatClampNeg (σ.1 r 1).toNatClampNeg (nI k).toNatClampNeg)) r 1 ((wC σ (r + 1) (va_cpy (σ.1 (r2 + 1)) (σ.1 (r + 1)) (nI f).toNatClampNeg (σ.1 r 1).toNatClampNeg (nI k).toNatClampNeg)).1 r 1 + nI k)) := (FrI.rf.putC (by simp)).put (by simp)
            rw [nI_leI (by omega) (by omega)] at c76
            first
            | exact hQ _ (by rw [List.take_of_length_le (by omega)] at hfin; exact hfin) hfr
            | exact hQ _ (by
                have h9 := hfin.over (zs := (((os.take m).take t).drop f).drop k) (by simp only [List.length_append, hkl]; omega) (by intro z; have := List.length_drop (i := k) (l := ((os.take m).take t).drop f); rw [z] at this; simp only [List.length_nil] at this; omega)
                rw [List.append_assoc, List.take_append_drop] at h9
                exact h9) (hfr.put (by simp)))
