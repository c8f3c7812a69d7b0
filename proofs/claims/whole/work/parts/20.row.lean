/-! SuperDriver$Row: the row at cell r (its array at r + 1, n places) holds the signs ys as far as they fit -/
def bI (b : Bool) : Int32 := if b then 1 else 0
theorem bI_t {p : Prop} [h0 : Decidable p] (h : p) : bI (decide p) = 1 := by simp [bI, h]
theorem bI_f {p : Prop} [h0 : Decidable p] (h : ¬ p) : bI (decide p) = 0 := by simp [bI, h]
def isRow (Γ : List Sh) (σ : Mem) (r n : Nat) (ys : List Int32) : Prop :=
  Γ[r]? = some (0, 1) ∧ Γ[r + 1]? = some (1, n) ∧ σ.2.1 r 0 = some (r + 1) ∧ n ≤ 1000000 ∧ σ.1 r 1 = nI (ys.take n).length ∧ (∀ i, i < (ys.take n).length → σ.1 (r + 1) i = (ys.take n).getD i 0) ∧ σ.1 r 2 = bI (decide (n < ys.length))
/-- only ints change, and only in the cells S -/
def FrI (S : List Nat) (σ σ' : Mem) : Prop := σ'.2 = σ.2 ∧ ∀ a, a ∉ S → σ'.1 a = σ.1 a
theorem FrI.rf {S : List Nat} {σ : Mem} : FrI S σ σ := ⟨rfl, fun _ _ => rfl⟩
theorem FrI.tr {S : List Nat} {σ1 σ2 σ3 : Mem} (h1 : FrI S σ1 σ2) (h2 : FrI S σ2 σ3) : FrI S σ1 σ3 := ⟨h2.1.trans h1.1, fun a ha => (h2.2 a ha).trans (h1.2 a ha)⟩
theorem FrI.mono {S T : List Nat} {σ σ' : Mem} (h : FrI S σ σ') (hs : ∀ a ∈ S, a ∈ T) : FrI T σ σ' := ⟨h.1, fun a ha => h.2 a (fun z => ha (hs a z))⟩
theorem FrI.put {S : List Nat} {σ σ' : Mem} {a j : Nat} {v : Int32} (h : FrI S σ σ') (ha : a ∈ S) : FrI S σ (wI σ' a j v) := by
  refine ⟨h.1, fun b hb => ?_⟩
  have hne : b ≠ a := fun z => hb (z ▸ ha)
  rw [← h.2 b hb]
  funext i
  simp [wI, hne]
theorem isRow.fr {Γ : List Sh} {σ σ' : Mem} {r n : Nat} {ys : List Int32} {S : List Nat} (h : isRow Γ σ r n ys) (hf : FrI S σ σ') (h1 : r ∉ S) (h2 : r + 1 ∉ S) : isRow Γ σ' r n ys := by
  obtain ⟨a1, a2, a3, a4, a5, a6, a7⟩ := h
  refine ⟨a1, a2, by rw [hf.1]; exact a3, a4, by rw [hf.2 r h1]; exact a5, fun i hi => by rw [hf.2 _ h2]; exact a6 i hi, by rw [hf.2 r h1]; exact a7⟩
def atI (zs : List Int32) (i : Int32) : Int32 := if i < 0 then -1 else zs.getD i.toNatClampNeg (-1)
theorem clamp_lt {i : Int32} {n : Nat} (h0 : ¬ i < 0) (hn : n ≤ 1000000) : nI n ≤ i ↔ n ≤ i.toNatClampNeg := by
  obtain ⟨j, hj, rfl⟩ := nI_of h0
  rw [nI_clamp hj, nI_leI (by omega) hj]
set_option maxRecDepth 10000 in
theorem c_Row_length {G : Ctx} {d : Nat} {Γ : List Sh} {σ : Mem} {Q : Option Value → List Sh → Mem → Prop} {r n : Nat} {ys : List Int32} (hR : isRow Γ σ r n ys) (hQ : Q (some (.int (nI (ys.take n).length))) Γ σ) : Ct G M_Row_length d 0 0 [rf G r] Γ σ Q := by
  obtain ⟨a1, a2, a3, a4, a5, a6, a7⟩ := id hR
  refine Ct.of (lv := [some (rf G r)]) (ll := []) rfl rfl (EN.cat (n := 0) ⟨rfl, trivial⟩ (Nat.le_of_ble_eq_true rfl)) ?_
  first | refine x_aload_n d_Row_length_0 rfl rfl ?_ | refine x_aloadN_n d_Row_length_0 rfl rfl ?_ | refine x_aloadE_n d_Row_length_0 rfl rfl ?_
  refine x_getI d_Row_length_1 f_Row_21 rfl (by assumption) ?_
  exact x_ireturn d_Row_length_4 rfl (by first | rfl | decide) (by rw [a5]; exact hQ)
set_option maxRecDepth 10000 in
theorem c_Row_isTooLong {G : Ctx} {d : Nat} {Γ : List Sh} {σ : Mem} {Q : Option Value → List Sh → Mem → Prop} {r n : Nat} {ys : List Int32} (hR : isRow Γ σ r n ys) (hQ : Q (some (.int (bI (decide (n < ys.length))))) Γ σ) : Ct G M_Row_isTooLong d 0 0 [rf G r] Γ σ Q := by
  obtain ⟨a1, a2, a3, a4, a5, a6, a7⟩ := id hR
  refine Ct.of (lv := [some (rf G r)]) (ll := []) rfl rfl (EN.cat (n := 0) ⟨rfl, trivial⟩ (Nat.le_of_ble_eq_true rfl)) ?_
  first | refine x_aload_n d_Row_isTooLong_0 rfl rfl ?_ | refine x_aloadN_n d_Row_isTooLong_0 rfl rfl ?_ | refine x_aloadE_n d_Row_isTooLong_0 rfl rfl ?_
  refine x_getI d_Row_isTooLong_1 f_Row_25 rfl (by assumption) ?_
  exact x_ireturn d_Row_isTooLong_4 rfl (by rw [a7]; unfold bI; split <;> decide) (by rw [a7]; exact hQ)
set_option maxRecDepth 10000 in
theorem c_Row_isEmpty {G : Ctx} {d : Nat} {Γ : List Sh} {σ : Mem} {Q : Option Value → List Sh → Mem → Prop} {r n : Nat} {ys : List Int32} (hR : isRow Γ σ r n ys) (hQ : Q (some (.int (bI (decide ((ys.take n).length = 0))))) Γ σ) : Ct G M_Row_isEmpty d 0 0 [rf G r] Γ σ Q := by
  obtain ⟨a1, a2, a3, a4, a5, a6, a7⟩ := id hR
  refine Ct.of (lv := [some (rf G r)]) (ll := []) rfl rfl (EN.cat (n := 0) ⟨rfl, trivial⟩ (Nat.le_of_ble_eq_true rfl)) ?_
  first | refine x_aload_n d_Row_isEmpty_0 rfl rfl ?_ | refine x_aloadN_n d_Row_isEmpty_0 rfl rfl ?_ | refine x_aloadE_n d_Row_isEmpty_0 rfl rfl ?_
  refine x_getI d_Row_isEmpty_1 f_Row_21 rfl (by assumption) ?_
  refine x_if_ne (tgt := 11) d_Row_isEmpty_4 (by decide) (fun c4 => ?_) (fun c4 => ?_)
  · refine x_iconst (v := 0) d_Row_isEmpty_11 (by decide) ?_
    exact x_ireturn d_Row_isEmpty_12 rfl (by first | rfl | decide) (by
    rw [a5] at c4
    have h9 : nI (ys.take n).length = nI 0 ↔ (ys.take n).length = 0 := nI_eq (by simp; omega) (by decide)
    rw [nI_0] at h9
    simp only [h9] at c4
    first | (rw [bI_t c4] at hQ; exact hQ) | (rw [bI_f c4] at hQ; exact hQ))
  · refine x_iconst (v := 1) d_Row_isEmpty_7 (by decide) ?_
    refine x_goto (tgt := 12) d_Row_isEmpty_8 (by decide) ?_
    exact x_ireturn d_Row_isEmpty_12 rfl (by first | rfl | decide) (by
    rw [a5] at c4
    have h9 : nI (ys.take n).length = nI 0 ↔ (ys.take n).length = 0 := nI_eq (by simp; omega) (by decide)
    rw [nI_0] at h9
    simp only [h9] at c4
    first | (rw [bI_t c4] at hQ; exact hQ) | (rw [bI_f c4] at hQ; exact hQ))
theorem at1 {P : Int32 → Prop} {zs : List Int32} {i : Int32} (h : i < 0) (hQ : P (atI zs i)) : P (-1) := by
  rw [atI, if_pos h] at hQ; exact hQ
theorem at2 {P : Int32 → Prop} {ys : List Int32} {n : Nat} {i : Int32} (h0 : ¬ i < 0) (h : nI (ys.take n).length ≤ i) (hn : n ≤ 1000000) (hQ : P (atI (ys.take n) i)) : P (-1) := by
  have h2 := (clamp_lt h0 (n := (ys.take n).length) (by simp; omega)).mp h
  rw [atI, if_neg h0, List.getD_eq_getElem?_getD, List.getElem?_eq_none h2] at hQ; exact hQ
theorem at3 {P : Int32 → Prop} {ys : List Int32} {n : Nat} {i : Int32} (h0 : ¬ i < 0) (h : nI n ≤ i) (hn : n ≤ 1000000) (hQ : P (atI (ys.take n) i)) : P (-1) := by
  have h2 := (clamp_lt h0 hn).mp h
  have h3 : (ys.take n).length ≤ i.toNatClampNeg := by simp; omega
  rw [atI, if_neg h0, List.getD_eq_getElem?_getD, List.getElem?_eq_none h3] at hQ; exact hQ
theorem at4 {P : Int32 → Prop} {f : Nat → Int32} {ys : List Int32} {n : Nat} {i : Int32} (h0 : ¬ i < 0) (h : ¬ nI (ys.take n).length ≤ i) (hn : n ≤ 1000000) (hf : ∀ i, i < (ys.take n).length → f i = (ys.take n).getD i 0) (hQ : P (atI (ys.take n) i)) : P (f i.toNatClampNeg) := by
  have h2 : i.toNatClampNeg < (ys.take n).length := Nat.not_le.mp fun z => h ((clamp_lt h0 (n := (ys.take n).length) (by simp; omega)).mpr z)
  rw [hf _ h2]
  rw [atI, if_neg h0] at hQ
  rw [List.getD_eq_getElem?_getD, List.getElem?_eq_getElem h2] at hQ ⊢
  exact hQ
theorem atx {Γ : List Sh} {r n : Nat} {i : Int32} (_ : Γ[r + 1]? = some (1, n)) (hn : n ≤ 1000000) (h0 : ¬ i < 0) (h : ¬ Int32.ofNat n ≤ i) : vp_in i n := by
  intro z
  rcases z with z | z
  · exact h0 z
  · exact h ((clamp_lt h0 hn).mpr z)
set_option maxRecDepth 10000 in
theorem c_Row_at {G : Ctx} {d : Nat} {Γ : List Sh} {σ : Mem} {Q : Option Value → List Sh → Mem → Prop} {r n : Nat} {ys : List Int32} {i : Int32} (hR : isRow Γ σ r n ys) (hQ : Q (some (.int (atI (ys.take n) i))) Γ σ) : Ct G M_Row_at d 0 0 [rf G r, .int i] Γ σ Q := by
  obtain ⟨a1, a2, a3, a4, a5, a6, a7⟩ := id hR
  refine Ct.of (lv := [some (rf G r), some (.int i)]) (ll := []) rfl rfl (EN.cat (n := 0) ⟨rfl, rfl, trivial⟩ (Nat.le_of_ble_eq_true rfl)) ?_
  refine x_iload_n d_Row_at_0 rfl rfl ?_
  refine x_if_lt (tgt := 30) d_Row_at_1 (by decide) (fun c1 => ?_) (fun c1 => ?_)
  · refine x_iconst (v := -1) d_Row_at_30 (by decide) ?_
    exact x_ireturn d_Row_at_31 rfl rfl (by first | exact at1 (P := fun v => Q (some (.int v)) Γ σ) c1 hQ | exact at2 (P := fun v => Q (some (.int v)) Γ σ) c1 (by rw [← a5]; exact c9) a4 hQ | exact at3 (P := fun v => Q (some (.int v)) Γ σ) c1 c18 a4 hQ | exact at4 (P := fun v => Q (some (.int v)) Γ σ) c1 (by rw [← a5]; exact c9) a4 a6 hQ)
  · refine x_iload_n d_Row_at_4 rfl rfl ?_
    first | refine x_aload_n d_Row_at_5 rfl rfl ?_ | refine x_aloadN_n d_Row_at_5 rfl rfl ?_ | refine x_aloadE_n d_Row_at_5 rfl rfl ?_
    refine x_getI d_Row_at_6 f_Row_21 rfl (by assumption) ?_
    refine x_icmp_ge (tgt := 30) d_Row_at_9 (by decide) (fun c9 => ?_) (fun c9 => ?_)
    · refine x_iconst (v := -1) d_Row_at_30 (by decide) ?_
      exact x_ireturn d_Row_at_31 rfl rfl (by first | exact at1 (P := fun v => Q (some (.int v)) Γ σ) c1 hQ | exact at2 (P := fun v => Q (some (.int v)) Γ σ) c1 (by rw [← a5]; exact c9) a4 hQ | exact at3 (P := fun v => Q (some (.int v)) Γ σ) c1 c18 a4 hQ | exact at4 (P := fun v => Q (some (.int v)) Γ σ) c1 (by rw [← a5]; exact c9) a4 a6 hQ)
    · refine x_iload_n d_Row_at_12 rfl rfl ?_
      first | refine x_aload_n d_Row_at_13 rfl rfl ?_ | refine x_aloadN_n d_Row_at_13 rfl rfl ?_ | refine x_aloadE_n d_Row_at_13 rfl rfl ?_
      refine x_getR d_Row_at_14 f_Row_15 rfl (by assumption) (by assumption) ?_
      refine x_alen d_Row_at_17 (by assumption) (by decide) rfl ?_
      refine x_icmp_ge (tgt := 30) d_Row_at_18 (by decide) (fun c18 => ?_) (fun c18 => ?_)
      · refine x_iconst (v := -1) d_Row_at_30 (by decide) ?_
        exact x_ireturn d_Row_at_31 rfl rfl (by first | exact at1 (P := fun v => Q (some (.int v)) Γ σ) c1 hQ | exact at2 (P := fun v => Q (some (.int v)) Γ σ) c1 (by rw [← a5]; exact c9) a4 hQ | exact at3 (P := fun v => Q (some (.int v)) Γ σ) c1 c18 a4 hQ | exact at4 (P := fun v => Q (some (.int v)) Γ σ) c1 (by rw [← a5]; exact c9) a4 a6 hQ)
      · first | refine x_aload_n d_Row_at_21 rfl rfl ?_ | refine x_aloadN_n d_Row_at_21 rfl rfl ?_ | refine x_aloadE_n d_Row_at_21 rfl rfl ?_
        refine x_getR d_Row_at_22 f_Row_15 rfl (by assumption) (by assumption) ?_
        refine x_iload_n d_Row_at_25 rfl rfl ?_
        refine x_iald d_Row_at_26 (by assumption) (atx a2 a4 c1 c18) ?_
        refine x_goto (tgt := 31) d_Row_at_27 (by decide) ?_
        exact x_ireturn d_Row_at_31 rfl rfl (by first | exact at1 (P := fun v => Q (some (.int v)) Γ σ) c1 hQ | exact at2 (P := fun v => Q (some (.int v)) Γ σ) c1 (by rw [← a5]; exact c9) a4 hQ | exact at3 (P := fun v => Q (some (.int v)) Γ σ) c1 c18 a4 hQ | exact at4 (P := fun v => Q (some (.int v)) Γ σ) c1 (by rw [← a5]; exact c9) a4 a6 hQ)
