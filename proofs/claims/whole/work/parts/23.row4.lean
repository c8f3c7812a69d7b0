/-! Row.copy, indexOf, repeats, isRenamingOf -/
theorem atI_nI {zs : List Int32} {i : Nat} (hi : i < 2 ^ 31) : atI zs (nI i) = zs.getD i (-1) := by
  rw [atI, if_neg (nI_pos hi), nI_clamp hi]
theorem getD_lt {zs : List Int32} {i : Nat} {a b : Int32} (hi : i < zs.length) : zs.getD i a = zs.getD i b := by
  simp [List.getD_eq_getElem?_getD, List.getElem?_eq_getElem hi]
theorem isRow.tl {Γ : List Sh} {σ : Mem} {r n : Nat} {ys : List Int32} (h : isRow Γ σ r n ys) : (ys.take n).length ≤ 1000000 := by
  have := h.2.2.2.1
  simp; omega
/-- the first place of s, or the length -/
def fidx (s : Int32) : List Int32 → Nat
  | [] => 0
  | x :: l => if x = s then 0 else fidx s l + 1
def idxI (zs : List Int32) (s : Int32) : Int32 := if fidx s zs < zs.length then nI (fidx s zs) else -1
theorem fidx_eq {s : Int32} : ∀ {zs : List Int32} {i : Nat}, i < zs.length → zs.getD i (-1) = s → (∀ j, j < i → zs.getD j (-1) ≠ s) → fidx s zs = i
  | [], i, h, _, _ => by simp at h
  | x :: l, 0, _, h, _ => by simp at h; simp [fidx, h]
  | x :: l, i + 1, h, h2, h3 => by
    have h0 : x ≠ s := by simpa using h3 0 (by omega)
    have := fidx_eq (s := s) (zs := l) (i := i) (by simpa using h) (by simpa using h2) (fun j hj => by simpa using h3 (j + 1) (by omega))
    simp [fidx, h0, this]
theorem fidx_no {s : Int32} : ∀ {zs : List Int32}, (∀ j, j < zs.length → zs.getD j (-1) ≠ s) → fidx s zs = zs.length
  | [], _ => rfl
  | x :: l, h => by
    have h0 : x ≠ s := by simpa using h 0 (by simp)
    have := fidx_no (s := s) (zs := l) (fun j hj => by simpa using h (j + 1) (by simpa using hj))
    simp [fidx, h0, this]
theorem c_Row_addRange' {G : Ctx} {d : Nat} {Γ : List Sh} {σ : Mem} {Q : Option Value → List Sh → Mem → Prop} {r n r2 m f t : Nat} {x y : Int32} {ys os : List Int32} (hx : x = nI f) (hy : y = nI t) (hR : isRow Γ σ r n ys) (hO : isRow Γ σ r2 m os) (hne : r2 ≠ r) (hf : f ≤ 1000000) (ht : t ≤ 1000000) (hQ : ∀ σ', isRow Γ σ' r n (ys ++ ((os.take m).take t).drop f) → FrI [r, r + 1] σ σ' → Q none Γ σ') : Ct G M_Row_addRange (d + 1) 0 0 [rf G r, rf G r2, .int x, .int y] Γ σ Q := by
  subst hx; subst hy
  exact c_Row_addRange hR hO hne hf ht hQ
theorem isRow.ne1 {Γ : List Sh} {σ : Mem} {r n r2 m : Nat} {ys os : List Int32} (h : isRow Γ σ r n ys) (h2 : isRow Γ σ r2 m os) : r2 ≠ r + 1 := fun z => by
  have := h2.1
  rw [z, h.2.1] at this
  cases this
theorem isRow.fr2 {Γ : List Sh} {σ σ' : Mem} {r n r2 m : Nat} {ys os : List Int32} (h2 : isRow Γ σ r2 m os) (h : isRow Γ σ r n ys) (hf : FrI [r, r + 1] σ σ') (hne : r2 ≠ r) : isRow Γ σ' r2 m os := by
  have h3 := h.ne1 h2
  have h4 := h2.ne1 h
  exact h2.fr hf (by simp; omega) (by simp; omega)
set_option maxRecDepth 10000 in
set_option maxHeartbeats 1000000 in
theorem c_Row_copy {G : Ctx} {d : Nat} {Γ : List Sh} {σ : Mem} {Q : Option Value → List Sh → Mem → Prop} {r n r2 m : Nat} {ys os : List Int32} (hR : isRow Γ σ r n ys) (hO : isRow Γ σ r2 m os) (hne : r2 ≠ r) (hQ : ∀ σ', isRow Γ σ' r n (os.take m) → FrI [r, r + 1] σ σ' → Q none Γ σ') : Ct G M_Row_copy (d + 2) 0 0 [rf G r, rf G r2] Γ σ Q := by
  obtain ⟨a1, a2, a3, a4, a5, a6, a7⟩ := id hR
  obtain ⟨o1, o2, o3, o4, o5, o6, o7⟩ := id hO
  refine Ct.of (lv := [some (rf G r), some (rf G r2)]) (ll := []) rfl rfl (EN.cat (n := 0) ⟨rfl, rfl, trivial⟩ (Nat.le_of_ble_eq_true rfl)) ?_
  first | refine x_aload_n d_Row_copy_0 rfl rfl ?_ | refine x_aloadN_n d_Row_copy_0 rfl rfl ?_ | refine x_aloadE_n d_Row_copy_0 rfl rfl ?_
  refine x_callV0 d_Row_copy_1 k_Row_clear l_Row_38 v_Row_clear rfl s_Row_clear (by assumption) RoomE.m (Nat.le_of_ble_eq_true rfl) (c_Row_clear hR (fun σ1 h1 f1 => ?_))
  have f1 := f1.mono (T := [r, r + 1]) (by simp)
  have hO1 := hO.fr2 hR f1 hne
  obtain ⟨b1, b2, b3, b4, b5, b6, b7⟩ := id hO1
  first | refine x_aload_n d_Row_copy_4 rfl rfl ?_ | refine x_aloadN_n d_Row_copy_4 rfl rfl ?_ | refine x_aloadE_n d_Row_copy_4 rfl rfl ?_
  first | refine x_aload_n d_Row_copy_5 rfl rfl ?_ | refine x_aloadN_n d_Row_copy_5 rfl rfl ?_ | refine x_aloadE_n d_Row_copy_5 rfl rfl ?_
  refine x_iconst (v := 0) d_Row_copy_6 (by decide) ?_
  first | refine x_aload_n d_Row_copy_7 rfl rfl ?_ | refine x_aloadN_n d_Row_copy_7 rfl rfl ?_ | refine x_aloadE_n d_Row_copy_7 rfl rfl ?_
  refine x_getI d_Row_copy_8 f_Row_21 rfl (by assumption) ?_
  refine x_callV3 d_Row_copy_11 k_Row_addRange l_Row_41 v_Row_addRange rfl s_Row_addRange (by assumption) RoomE.m (Nat.le_of_ble_eq_true rfl) (c_Row_addRange' (f := 0) (t := (os.take m).length) nI_0.symm (b5) h1 hO1 hne (by omega) hO.tl (fun σ2 h2 f2 => ?_))
  exact x_return d_Row_copy_14 rfl (hQ σ2 (by rw [List.nil_append, List.drop_zero, List.take_length] at h2; exact h2) (f1.tr f2))
set_option maxRecDepth 10000 in
set_option maxHeartbeats 1000000 in
theorem c_Row_indexOf {G : Ctx} {d : Nat} {Γ : List Sh} {σ : Mem} {Q : Option Value → List Sh → Mem → Prop} {r n : Nat} {ys : List Int32} {s : Int32} (hR : isRow Γ σ r n ys) (hQ : Q (some (.int (idxI (ys.take n) s))) Γ σ) : Ct G M_Row_indexOf (d + 1) 0 0 [rf G r, .int s] Γ σ Q := by
  obtain ⟨a1, a2, a3, a4, a5, a6, a7⟩ := id hR
  have htl := hR.tl
  have lp : ∀ (k : Nat) (i : Nat), i ≤ (ys.take n).length → (ys.take n).length + 1 ≤ i + k → (∀ j, j < i → (ys.take n).getD j (-1) ≠ s) → Wq G M_Row_indexOf (Em G (d + 1) 0 0 Q) 0 0 2 [some (rf G r), some (.int s), some (.int (nI i))] [] [] Γ σ := by
    intro k
    induction k with
    | zero =>
      intro i h1 h2; omega
    | succ k ih =>
      intro i h1 h2 h3
      refine x_iload_n d_Row_indexOf_2 rfl rfl ?_
      first | refine x_aload_n d_Row_indexOf_3 rfl rfl ?_ | refine x_aloadN_n d_Row_indexOf_3 rfl rfl ?_ | refine x_aloadE_n d_Row_indexOf_3 rfl rfl ?_
      refine x_getI d_Row_indexOf_4 f_Row_21 rfl (by assumption) ?_
      refine x_icmp_ge (tgt := 27) d_Row_indexOf_7 (by decide) (fun c7 => ?_) (fun c7 => ?_)
      · have hil : (ys.take n).length ≤ i := by rw [a5, nI_leI (by omega) (by omega)] at c7; exact c7
        refine x_iconst (v := -1) d_Row_indexOf_27 (by decide) ?_
        exact x_ireturn d_Row_indexOf_28 rfl rfl (by
          have e := fidx_no (s := s) (zs := ys.take n) (fun j hj => h3 j (by omega))
          rw [idxI, e, if_neg (by omega)] at hQ
          exact hQ)
      · have hil : i < (ys.take n).length := Nat.not_le.mp fun z => c7 (by rw [a5]; exact nI_le z (by omega))
        first | refine x_aload_n d_Row_indexOf_10 rfl rfl ?_ | refine x_aloadN_n d_Row_indexOf_10 rfl rfl ?_ | refine x_aloadE_n d_Row_indexOf_10 rfl rfl ?_
        refine x_iload_n d_Row_indexOf_11 rfl rfl ?_
        refine x_callV1 d_Row_indexOf_12 k_Row_at l_Row_45 v_Row_at rfl s_Row_at (by assumption) RoomE.m (Nat.le_of_ble_eq_true rfl) (c_Row_at hR ?_)
        refine x_iload_n d_Row_indexOf_15 rfl rfl ?_
        refine x_icmp_ne (tgt := 21) d_Row_indexOf_16 (by decide) (fun c16 => ?_) (fun c16 => ?_)
        · rw [atI_nI (by omega)] at c16
          refine x_iinc (v := nI (i + 1)) d_Row_indexOf_21 rfl (nI_1 i) rfl ?_
          refine x_goto (tgt := 2) d_Row_indexOf_24 (by decide) ?_
          exact ih (i + 1) (by omega) (by omega) (fun j hj => (show j < i ∨ j = i by omega).elim (h3 j) (fun h => by rw [h]; exact c16))
        · rw [atI_nI (by omega)] at c16
          refine x_iload_n d_Row_indexOf_19 rfl rfl ?_
          exact x_ireturn d_Row_indexOf_20 rfl rfl (by
            have e := fidx_eq hil c16 h3
            rw [idxI, e, if_pos hil] at hQ
            exact hQ)
  refine Ct.of (lv := [some (rf G r), some (.int s), none]) (ll := []) rfl rfl (EN.cat (n := 1) ⟨rfl, rfl, trivial⟩ (Nat.le_of_ble_eq_true rfl)) ?_
  refine x_iconst (v := 0) d_Row_indexOf_0 (by decide) ?_
  refine x_istore_n d_Row_indexOf_1 rfl rfl ?_
  exact lp ((ys.take n).length + 1) 0 (Nat.zero_le _) (by omega) (fun j hj => absurd hj (Nat.not_lt_zero j))
theorem rep_lt {i t f : Nat} (hi : i ≤ 2000000) (ht : t ≤ 1000000) (hf : f ≤ 1000000) : nI i < nI t - nI f ↔ i < t - f := by
  rw [Int32.lt_iff_toInt_lt, pk_sub_toInt (by omega) (by omega), nI_toInt (by omega)]
  omega
set_option maxRecDepth 10000 in
set_option maxHeartbeats 1000000 in
theorem c_Row_repeats {G : Ctx} {d : Nat} {Γ : List Sh} {σ : Mem} {Q : Option Value → List Sh → Mem → Prop} {r n f t e : Nat} {ys : List Int32} (hR : isRow Γ σ r n ys) (hf : f ≤ 1000000) (ht : t ≤ 1000000) (he : e ≤ 1000000) (hQ : Q (some (.int (bI (decide (∀ k, k < t - f → (ys.take n).getD (f + k) (-1) = (ys.take n).getD (e + k) (-1)))))) Γ σ) : Ct G M_Row_repeats (d + 1) 0 0 [rf G r, .int (nI f), .int (nI t), .int (nI e)] Γ σ Q := by
  obtain ⟨a1, a2, a3, a4, a5, a6, a7⟩ := id hR
  have htl := hR.tl
  have lp : ∀ (k : Nat) (i : Nat), i ≤ t - f → t - f + 1 ≤ i + k → (∀ j, j < i → (ys.take n).getD (f + j) (-1) = (ys.take n).getD (e + j) (-1)) → Wq G M_Row_repeats (Em G (d + 1) 0 0 Q) 0 0 3 [some (rf G r), some (.int (nI f)), some (.int (nI t)), some (.int (nI e)), some (.int (nI i))] [] [] Γ σ := by
    intro k
    induction k with
    | zero =>
      intro i h1 h2; omega
    | succ k ih =>
      intro i h1 h2 h3
      refine x_iload d_Row_repeats_3 rfl ?_
      refine x_iload_n d_Row_repeats_5 rfl rfl ?_
      refine x_iload_n d_Row_repeats_6 rfl rfl ?_
      refine x_isub d_Row_repeats_7 ?_
      refine x_icmp_ge (tgt := 38) d_Row_repeats_8 (by decide) (fun c8 => ?_) (fun c8 => ?_)
      · have hil : t - f ≤ i := Nat.not_lt.mp fun z => absurd c8 (Int32.not_le.mpr ((rep_lt (by omega) (by omega) (by omega)).mpr z))
        refine x_iconst (v := 1) d_Row_repeats_38 (by decide) ?_
        exact x_ireturn d_Row_repeats_39 rfl (by decide) (by rw [bI_t (fun j hj => h3 j (by omega))] at hQ; exact hQ)
      · have hil : i < t - f := (rep_lt (by omega) (by omega) (by omega)).mp (Int32.not_le.mp c8)
        first | refine x_aload_n d_Row_repeats_11 rfl rfl ?_ | refine x_aloadN_n d_Row_repeats_11 rfl rfl ?_ | refine x_aloadE_n d_Row_repeats_11 rfl rfl ?_
        refine x_iload_n d_Row_repeats_12 rfl rfl ?_
        refine x_iload d_Row_repeats_13 rfl ?_
        refine x_iadd d_Row_repeats_15 ?_
        rw [nI_add]
        refine x_callV1 d_Row_repeats_16 k_Row_at l_Row_45 v_Row_at rfl s_Row_at (by assumption) RoomE.m (Nat.le_of_ble_eq_true rfl) (c_Row_at hR ?_)
        first | refine x_aload_n d_Row_repeats_19 rfl rfl ?_ | refine x_aloadN_n d_Row_repeats_19 rfl rfl ?_ | refine x_aloadE_n d_Row_repeats_19 rfl rfl ?_
        refine x_iload_n d_Row_repeats_20 rfl rfl ?_
        refine x_iload d_Row_repeats_21 rfl ?_
        refine x_iadd d_Row_repeats_23 ?_
        rw [nI_add]
        refine x_callV1 d_Row_repeats_24 k_Row_at l_Row_45 v_Row_at rfl s_Row_at (by assumption) RoomE.m (Nat.le_of_ble_eq_true rfl) (c_Row_at hR ?_)
        refine x_icmp_eq (tgt := 32) d_Row_repeats_27 (by decide) (fun c27 => ?_) (fun c27 => ?_)
        · rw [atI_nI (by omega), atI_nI (by omega)] at c27
          refine x_iinc (v := nI (i + 1)) d_Row_repeats_32 rfl (nI_1 i) rfl ?_
          refine x_goto (tgt := 3) d_Row_repeats_35 (by decide) ?_
          exact ih (i + 1) (by omega) (by omega) (fun j hj => (show j < i ∨ j = i by omega).elim (h3 j) (fun h => by rw [h]; exact c27))
        · rw [atI_nI (by omega), atI_nI (by omega)] at c27
          refine x_iconst (v := 0) d_Row_repeats_30 (by decide) ?_
          exact x_ireturn d_Row_repeats_31 rfl (by decide) (by rw [bI_f (fun z => c27 (z i hil))] at hQ; exact hQ)
  refine Ct.of (lv := [some (rf G r), some (.int (nI f)), some (.int (nI t)), some (.int (nI e)), none]) (ll := []) rfl rfl (EN.cat (n := 1) ⟨rfl, rfl, rfl, rfl, trivial⟩ (Nat.le_of_ble_eq_true rfl)) ?_
  refine x_iconst (v := 0) d_Row_repeats_0 (by decide) ?_
  refine x_istore d_Row_repeats_1 rfl ?_
  exact lp (t - f + 1) 0 (Nat.zero_le _) (by omega) (fun j hj => absurd hj (Nat.not_lt_zero j))
