/-! SuperDriver$Signs at cell g: parts, cased -/
def isSg (Γ : List Sh) (σ : Mem) (g : Nat) (pt : Nat → Int32) (cs : Nat → Bool) : Prop :=
  (Γ[g]? = some (0, 3) ∧ Γ[g + 1]? = some (1, 401) ∧ Γ[g + 2]? = some (2, 401) ∧ Γ[g + 3]? = some (1, 40) ∧ Γ[g + 4]? = some (1, 40) ∧ Γ[g + 5]? = some (3, 40)) ∧
  (σ.2.1 g 0 = some (g + 1) ∧ σ.2.1 g 1 = some (g + 2) ∧ σ.2.1 g 2 = some (g + 3) ∧ σ.2.1 g 3 = some (g + 4) ∧ σ.2.1 g 4 = some (g + 5)) ∧
  (∀ i, i < 401 → σ.1 (g + 1) i = pt i) ∧ (∀ i, i < 401 → σ.1 (g + 2) i = bI (cs i))
def sgP (pt : Nat → Int32) (s : Int32) : Int32 := if s < 0 then 0 else if 401 ≤ s then 0 else pt s.toNatClampNeg
def sgC (cs : Nat → Bool) (s : Int32) : Bool := if s < 0 then false else if 401 ≤ s then false else cs s.toNatClampNeg
theorem isSg.fr {Γ : List Sh} {σ σ' : Mem} {g : Nat} {pt : Nat → Int32} {cs : Nat → Bool} {S : List Nat} (h : isSg Γ σ g pt cs) (hf : FrI S σ σ') (h1 : g + 1 ∉ S) (h2 : g + 2 ∉ S) : isSg Γ σ' g pt cs := by
  obtain ⟨a, b, c, d⟩ := h
  exact ⟨a, by rw [hf.1]; exact b, fun i hi => by rw [hf.2 _ h1]; exact c i hi, fun i hi => by rw [hf.2 _ h2]; exact d i hi⟩
theorem in401 {s : Int32} (h0 : ¬ s < 0) (h : ¬ 401 ≤ s) : vp_in s 401 ∧ s.toNatClampNeg < 401 := by
  have h1 : s.toNatClampNeg < 401 := Nat.not_le.mp fun z => h ((clamp_lt (n := 401) h0 (by decide)).mpr z)
  exact ⟨fun z => z.elim h0 (fun z => absurd z (by omega)), h1⟩
theorem isC_pos {s : Int32} (h : isC s = true) : ¬ s < 0 := by
  intro z
  have : s < 200 := Int32.lt_trans z (by decide)
  simp [isC, this] at h
def upN {α : Type} (f : Nat → α) (k : Nat) (v : α) : Nat → α := fun i => if i = k then v else f i
theorem isSg.set {Γ : List Sh} {σ : Mem} {g k : Nat} {pt : Nat → Int32} {cs : Nat → Bool} {c : Int32} {b : Bool} (h : isSg Γ σ g pt cs) : isSg Γ (wI (wI σ (g + 1) k c) (g + 2) k (bI b)) g (upN pt k c) (upN cs k b) := by
  obtain ⟨a, r, e, d⟩ := h
  refine ⟨a, r, fun i hi => ?_, fun i hi => ?_⟩
  · rw [wI_o (by omega)]
    by_cases z : i = k
    · subst z; rw [wI_s]; simp [upN]
    · rw [wI_j z, e i hi]; simp [upN, z]
  · by_cases z : i = k
    · subst z; rw [wI_s]; simp [upN]
    · rw [wI_j z, wI_o (by omega), d i hi]; simp [upN, z]
set_option maxRecDepth 10000 in
set_option maxHeartbeats 1000000 in
theorem c_Signs_partsOf {G : Ctx} {d : Nat} {Γ : List Sh} {σ : Mem} {Q : Option Value → List Sh → Mem → Prop} {g : Nat} {pt : Nat → Int32} {cs : Nat → Bool} {s : Int32} (hG : isSg Γ σ g pt cs) (hQ : Q (some (.int (sgP pt s))) Γ σ) : Ct G M_Signs_partsOf d 0 0 [rf G g, .int s] Γ σ Q := by
  obtain ⟨⟨s1, s2, s3, s4, s5, s6⟩, ⟨r1, r2, r3, r4, r5⟩, sp, sc⟩ := id hG
  refine Ct.of (lv := [some (rf G g), some (.int s)]) (ll := []) rfl rfl (EN.cat (n := 0) ⟨rfl, rfl, trivial⟩ (Nat.le_of_ble_eq_true rfl)) ?_
  refine x_iload_n d_Signs_partsOf_0 rfl rfl ?_
  refine x_if_lt (tgt := 20) d_Signs_partsOf_1 (by decide) (fun c1 => ?_) (fun c1 => ?_)
  · refine x_iconst (v := 0) d_Signs_partsOf_20 (by decide) ?_
    exact x_ireturn d_Signs_partsOf_21 rfl rfl (by first | (rw [sgP, if_pos c1] at hQ; exact hQ) | (rw [sgP, if_neg c1, if_pos c8] at hQ; exact hQ) | (rw [sgP, if_neg c1, if_neg c8, ← sp _ (in401 c1 c8).2] at hQ; exact hQ))
  · refine x_iload_n d_Signs_partsOf_4 rfl rfl ?_
    refine x_sipush (v := 401) d_Signs_partsOf_5 (by decide) ?_
    refine x_icmp_ge (tgt := 20) d_Signs_partsOf_8 (by decide) (fun c8 => ?_) (fun c8 => ?_)
    · refine x_iconst (v := 0) d_Signs_partsOf_20 (by decide) ?_
      exact x_ireturn d_Signs_partsOf_21 rfl rfl (by first | (rw [sgP, if_pos c1] at hQ; exact hQ) | (rw [sgP, if_neg c1, if_pos c8] at hQ; exact hQ) | (rw [sgP, if_neg c1, if_neg c8, ← sp _ (in401 c1 c8).2] at hQ; exact hQ))
    · first | refine x_aload_n d_Signs_partsOf_11 rfl rfl ?_ | refine x_aloadN_n d_Signs_partsOf_11 rfl rfl ?_ | refine x_aloadE_n d_Signs_partsOf_11 rfl rfl ?_
      refine x_getR d_Signs_partsOf_12 f_Signs_9 rfl (by assumption) (by assumption) ?_
      refine x_iload_n d_Signs_partsOf_15 rfl rfl ?_
      refine x_iald d_Signs_partsOf_16 (by assumption) ((in401 c1 c8).1) ?_
      refine x_goto (tgt := 21) d_Signs_partsOf_17 (by decide) ?_
      exact x_ireturn d_Signs_partsOf_21 rfl rfl (by first | (rw [sgP, if_pos c1] at hQ; exact hQ) | (rw [sgP, if_neg c1, if_pos c8] at hQ; exact hQ) | (rw [sgP, if_neg c1, if_neg c8, ← sp _ (in401 c1 c8).2] at hQ; exact hQ))
set_option maxRecDepth 10000 in
set_option maxHeartbeats 1000000 in
theorem c_Signs_isCased {G : Ctx} {d : Nat} {Γ : List Sh} {σ : Mem} {Q : Option Value → List Sh → Mem → Prop} {g : Nat} {pt : Nat → Int32} {cs : Nat → Bool} {s : Int32} (hG : isSg Γ σ g pt cs) (hQ : Q (some (.int (bI (sgC cs s)))) Γ σ) : Ct G M_Signs_isCased d 0 0 [rf G g, .int s] Γ σ Q := by
  obtain ⟨⟨s1, s2, s3, s4, s5, s6⟩, ⟨r1, r2, r3, r4, r5⟩, sp, sc⟩ := id hG
  refine Ct.of (lv := [some (rf G g), some (.int s)]) (ll := []) rfl rfl (EN.cat (n := 0) ⟨rfl, rfl, trivial⟩ (Nat.le_of_ble_eq_true rfl)) ?_
  refine x_iload_n d_Signs_isCased_0 rfl rfl ?_
  refine x_if_lt (tgt := 24) d_Signs_isCased_1 (by decide) (fun c1 => ?_) (fun c1 => ?_)
  · refine x_iconst (v := 0) d_Signs_isCased_24 (by decide) ?_
    exact x_ireturn d_Signs_isCased_25 rfl (by decide) (by first | (rw [sgC, if_pos c1] at hQ; exact hQ) | (rw [sgC, if_neg c1, if_pos c8] at hQ; exact hQ) | (rw [sgC, if_neg c1, if_neg c8, bI_0 c17] at hQ; exact hQ) | (rw [sgC, if_neg c1, if_neg c8, bI_n0 c17] at hQ; exact hQ))
  · refine x_iload_n d_Signs_isCased_4 rfl rfl ?_
    refine x_sipush (v := 401) d_Signs_isCased_5 (by decide) ?_
    refine x_icmp_ge (tgt := 24) d_Signs_isCased_8 (by decide) (fun c8 => ?_) (fun c8 => ?_)
    · refine x_iconst (v := 0) d_Signs_isCased_24 (by decide) ?_
      exact x_ireturn d_Signs_isCased_25 rfl (by decide) (by first | (rw [sgC, if_pos c1] at hQ; exact hQ) | (rw [sgC, if_neg c1, if_pos c8] at hQ; exact hQ) | (rw [sgC, if_neg c1, if_neg c8, bI_0 c17] at hQ; exact hQ) | (rw [sgC, if_neg c1, if_neg c8, bI_n0 c17] at hQ; exact hQ))
    · first | refine x_aload_n d_Signs_isCased_11 rfl rfl ?_ | refine x_aloadN_n d_Signs_isCased_11 rfl rfl ?_ | refine x_aloadE_n d_Signs_isCased_11 rfl rfl ?_
      refine x_getR d_Signs_isCased_12 f_Signs_15 rfl (by assumption) (by assumption) ?_
      refine x_iload_n d_Signs_isCased_15 rfl rfl ?_
      refine x_zald d_Signs_isCased_16 (by assumption) ((in401 c1 c8).1) ?_
      rw [sc _ (in401 c1 c8).2]
      refine x_if_eq (tgt := 24) d_Signs_isCased_17 (by decide) (fun c17 => ?_) (fun c17 => ?_)
      · refine x_iconst (v := 0) d_Signs_isCased_24 (by decide) ?_
        exact x_ireturn d_Signs_isCased_25 rfl (by decide) (by first | (rw [sgC, if_pos c1] at hQ; exact hQ) | (rw [sgC, if_neg c1, if_pos c8] at hQ; exact hQ) | (rw [sgC, if_neg c1, if_neg c8, bI_0 c17] at hQ; exact hQ) | (rw [sgC, if_neg c1, if_neg c8, bI_n0 c17] at hQ; exact hQ))
      · refine x_iconst (v := 1) d_Signs_isCased_20 (by decide) ?_
        refine x_goto (tgt := 25) d_Signs_isCased_21 (by decide) ?_
        exact x_ireturn d_Signs_isCased_25 rfl (by decide) (by first | (rw [sgC, if_pos c1] at hQ; exact hQ) | (rw [sgC, if_neg c1, if_pos c8] at hQ; exact hQ) | (rw [sgC, if_neg c1, if_neg c8, bI_0 c17] at hQ; exact hQ) | (rw [sgC, if_neg c1, if_neg c8, bI_n0 c17] at hQ; exact hQ))
set_option maxRecDepth 10000 in
set_option maxHeartbeats 1000000 in
theorem c_Signs_shape {G : Ctx} {d : Nat} {Γ : List Sh} {σ : Mem} {Q : Option Value → List Sh → Mem → Prop} {g : Nat} {pt : Nat → Int32} {cs : Nat → Bool} {s c : Int32} {b : Bool} (hG : isSg Γ σ g pt cs) (hs : isC s = true) (hs2 : ¬ 401 ≤ s) (hQ : ∀ σ', isSg Γ σ' g (upN pt s.toNatClampNeg c) (upN cs s.toNatClampNeg b) → FrI [g + 1, g + 2] σ σ' → Q none Γ σ') : Ct G M_Signs_shape (d + 1) 0 0 [rf G g, .int s, .int c, .int (bI b)] Γ σ Q := by
  obtain ⟨⟨s1, s2, s3, s4, s5, s6⟩, ⟨r1, r2, r3, r4, r5⟩, sp, sc⟩ := id hG
  refine Ct.of (lv := [some (rf G g), some (.int s), some (.int c), some (.int (bI b))]) (ll := []) rfl rfl (EN.cat (n := 0) ⟨rfl, rfl, rfl, rfl, trivial⟩ (Nat.le_of_ble_eq_true rfl)) ?_
  refine x_iload_n d_Signs_shape_0 rfl rfl ?_
  refine x_callSN1 d_Signs_shape_1 k_SD_isCall ln_Signs_32 z_SD_isCall RoomE.m (Nat.le_of_ble_eq_true rfl) (c_SD_isCall ?_)
  refine x_if_eq (tgt := 28) d_Signs_shape_4 (by decide) (fun c4 => ?_) (fun c4 => ?_)
  · rw [hs] at c4; exact absurd c4 (by decide)
  · refine x_iload_n d_Signs_shape_7 rfl rfl ?_
    refine x_sipush (v := 401) d_Signs_shape_8 (by decide) ?_
    refine x_icmp_ge (tgt := 28) d_Signs_shape_11 (by decide) (fun c11 => ?_) (fun c11 => ?_)
    · exact absurd c11 hs2
    · first | refine x_aload_n d_Signs_shape_14 rfl rfl ?_ | refine x_aloadN_n d_Signs_shape_14 rfl rfl ?_ | refine x_aloadE_n d_Signs_shape_14 rfl rfl ?_
      refine x_getR d_Signs_shape_15 f_Signs_9 rfl (by assumption) (by assumption) ?_
      refine x_iload_n d_Signs_shape_18 rfl rfl ?_
      refine x_iload_n d_Signs_shape_19 rfl rfl ?_
      refine x_iast d_Signs_shape_20 (by assumption) ((in401 (isC_pos hs) hs2).1) ?_
      first | refine x_aload_n d_Signs_shape_21 rfl rfl ?_ | refine x_aloadN_n d_Signs_shape_21 rfl rfl ?_ | refine x_aloadE_n d_Signs_shape_21 rfl rfl ?_
      refine x_getR d_Signs_shape_22 f_Signs_15 rfl (by assumption) (by assumption) ?_
      refine x_iload_n d_Signs_shape_25 rfl rfl ?_
      refine x_iload_n d_Signs_shape_26 rfl rfl ?_
      refine x_zast d_Signs_shape_27 (by assumption) ((in401 (isC_pos hs) hs2).1) (by cases b <;> decide) ?_
      exact x_return d_Signs_shape_28 rfl (hQ _ hG.set ((FrI.rf.put (by simp)).put (by simp)))
/-- how many signs belong to the m terms that begin here -/
def beh (P : Int32 → Int32) : List Int32 → Int32 → Nat
  | [], _ => 0
  | x :: l, m => if m ≤ 0 then 0 else beh P l (m + (P x - 1)) + 1
def behind (P : Int32 → Int32) (zs : List Int32) (i : Nat) : Nat := i + beh P (zs.drop i) 1
theorem beh_le (P : Int32 → Int32) : ∀ (l : List Int32) (m : Int32), beh P l m ≤ l.length
  | [], _ => Nat.le_refl _
  | x :: l, m => by
    unfold beh
    split
    · exact Nat.zero_le _
    · exact Nat.succ_le_succ (beh_le P l _)
theorem behind_le {P : Int32 → Int32} {zs : List Int32} {i : Nat} (h : i ≤ zs.length) : behind P zs i ≤ zs.length := by
  have := beh_le P (zs.drop i) 1
  simp at this
  unfold behind
  omega
theorem drop_cons {zs : List Int32} {i : Nat} (h : i < zs.length) : zs.drop i = zs.getD i (-1) :: zs.drop (i + 1) := by
  rw [List.drop_eq_getElem_cons h]
  simp [List.getD_eq_getElem?_getD, List.getElem?_eq_getElem h]
set_option maxRecDepth 10000 in
set_option maxHeartbeats 1000000 in
theorem c_Signs_behind {G : Ctx} {d : Nat} {Γ : List Sh} {σ : Mem} {Q : Option Value → List Sh → Mem → Prop} {g : Nat} {pt : Nat → Int32} {cs : Nat → Bool} {r n i0 : Nat} {ys : List Int32} (hG : isSg Γ σ g pt cs) (hR : isRow Γ σ r n ys) (hi : i0 ≤ (ys.take n).length) (hQ : Q (some (.int (nI (behind (sgP pt) (ys.take n) i0)))) Γ σ) : Ct G M_Signs_behind (d + 1) 0 0 [rf G g, rf G r, .int (nI i0)] Γ σ Q := by
  obtain ⟨⟨s1, s2, s3, s4, s5, s6⟩, ⟨r1, r2, r3, r4, r5⟩, sp, sc⟩ := id hG
  obtain ⟨a1, a2, a3, a4, a5, a6, a7⟩ := id hR
  have htl := hR.tl
  have lp : ∀ (k : Nat) (i : Nat) (mis : Int32), i ≤ (ys.take n).length → (ys.take n).length + 1 ≤ i + k → i + beh (sgP pt) ((ys.take n).drop i) mis = behind (sgP pt) (ys.take n) i0 → Wq G M_Signs_behind (Em G (d + 1) 0 0 Q) 0 0 5 [some (rf G g), some (rf G r), some (.int (nI i0)), some (.int mis), some (.int (nI i))] [] [] Γ σ := by
    intro k
    induction k with
    | zero =>
      intro i mis h1 h2; omega
    | succ k ih =>
      intro i mis h1 h2 h3
      refine x_iload d_Signs_behind_5 rfl ?_
      first | refine x_aload_n d_Signs_behind_7 rfl rfl ?_ | refine x_aloadN_n d_Signs_behind_7 rfl rfl ?_ | refine x_aloadE_n d_Signs_behind_7 rfl rfl ?_
      refine x_callV0 d_Signs_behind_8 k_Row_length l_Signs_36 v_Row_length rfl s_Row_length (by assumption) RoomE.m (Nat.le_of_ble_eq_true rfl) (c_Row_length hR ?_)
      refine x_icmp_ge (tgt := 39) d_Signs_behind_11 (by decide) (fun c11 => ?_) (fun c11 => ?_)
      · refine x_iload d_Signs_behind_39 rfl ?_
        exact x_ireturn d_Signs_behind_41 rfl rfl (by
          have hil : (ys.take n).length ≤ i := by rw [nI_leI (by omega) (by omega)] at c11; exact c11
          rw [List.drop_eq_nil_of_le hil] at h3
          rw [← h3] at hQ
          exact hQ)
      · have hil : i < (ys.take n).length := Nat.not_le.mp fun z => c11 (nI_le z (by omega))
        refine x_iload_n d_Signs_behind_14 rfl rfl ?_
        refine x_if_le (tgt := 39) d_Signs_behind_15 (by decide) (fun c15 => ?_) (fun c15 => ?_)
        · refine x_iload d_Signs_behind_39 rfl ?_
          exact x_ireturn d_Signs_behind_41 rfl rfl (by
            rw [drop_cons hil, beh, if_pos c15] at h3
            rw [← h3] at hQ
            exact hQ)
        · refine x_iload_n d_Signs_behind_18 rfl rfl ?_
          first | refine x_aload_n d_Signs_behind_19 rfl rfl ?_ | refine x_aloadN_n d_Signs_behind_19 rfl rfl ?_ | refine x_aloadE_n d_Signs_behind_19 rfl rfl ?_
          first | refine x_aload_n d_Signs_behind_20 rfl rfl ?_ | refine x_aloadN_n d_Signs_behind_20 rfl rfl ?_ | refine x_aloadE_n d_Signs_behind_20 rfl rfl ?_
          refine x_iload d_Signs_behind_21 rfl ?_
          refine x_callV1 d_Signs_behind_23 k_Row_at l_Signs_42 v_Row_at rfl s_Row_at (by assumption) RoomE.m (Nat.le_of_ble_eq_true rfl) (c_Row_at hR ?_)
          rw [atI_nI (by omega)]
          refine x_callV1 d_Signs_behind_26 k_Signs_partsOf l_Signs_46 v_Signs_partsOf rfl s_Signs_partsOf (by assumption) RoomE.m (Nat.le_of_ble_eq_true rfl) (c_Signs_partsOf hG ?_)
          refine x_iconst (v := 1) d_Signs_behind_29 (by decide) ?_
          refine x_isub d_Signs_behind_30 ?_
          refine x_iadd d_Signs_behind_31 ?_
          refine x_istore_n d_Signs_behind_32 rfl rfl ?_
          refine x_iinc (v := nI (i + 1)) d_Signs_behind_33 rfl (nI_1 i) rfl ?_
          refine x_goto (tgt := 5) d_Signs_behind_36 (by decide) ?_
          exact ih (i + 1) _ (by omega) (by omega) (by rw [drop_cons hil, beh, if_neg c15] at h3; omega)
  refine Ct.of (lv := [some (rf G g), some (rf G r), some (.int (nI i0)), none, none]) (ll := []) rfl rfl (EN.cat (n := 2) ⟨rfl, rfl, rfl, trivial⟩ (Nat.le_of_ble_eq_true rfl)) ?_
  refine x_iconst (v := 1) d_Signs_behind_0 (by decide) ?_
  refine x_istore_n d_Signs_behind_1 rfl rfl ?_
  refine x_iload_n d_Signs_behind_2 rfl rfl ?_
  refine x_istore d_Signs_behind_3 rfl ?_
  exact lp ((ys.take n).length + 1) i0 1 hi (by omega) rfl
