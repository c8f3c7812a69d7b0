/-! SuperDriver$SourceProgram at cell q: 48 rows of bodies -/
def isSrc (Γ : List Sh) (σ : Mem) (q g c : Nat) (bd : Nat → List Int32) : Prop :=
  Γ[q]? = some (0, 4) ∧ Γ[q + 1]? = some (4, 48) ∧ σ.2.1 q 0 = some (q + 1) ∧ σ.2.1 q 1 = some g ∧ σ.2.1 q 2 = some c ∧
  ∀ i, i < 48 → σ.2.1 (q + 1) i = some (q + 2 + 2 * i) ∧ isRow Γ σ (q + 2 + 2 * i) 24 (bd i) ∧ (bd i).length ≤ 24
/-- the place of a body -/
def plc (s c : Int32) : Option Nat := if s - 200 < 0 then none else if 8 ≤ s - 200 then none else if c < -1 then none else if c < 6 then some ((s - 200) * 6 + (if c = -1 then 0 else c)).toNatClampNeg else none
def sB (bd : Nat → List Int32) (s c : Int32) : Option Nat := match plc s c with
  | none => none
  | some i => if (bd i).length = 0 then none else some i
theorem plc_in {s c : Int32} (h1 : ¬ s - 200 < 0) (h2 : ¬ 8 ≤ s - 200) (h3 : ¬ c < -1) (h4 : c < 6) : vp_in ((s - 200) * 6 + (if c = -1 then 0 else c)) 48 ∧ ((s - 200) * 6 + (if c = -1 then 0 else c)).toNatClampNeg < 48 := by
  obtain ⟨f, hf, ef⟩ := nI_of h1
  have hf8 : f < 8 := by
    rw [ef] at h2
    have := (nI_leI (a := 8) (b := f) (by decide) hf)
    exact Nat.not_le.mp fun z => h2 (this.mpr z)
  have hc : ∃ k, k < 6 ∧ (if c = -1 then 0 else c) = nI k := by
    by_cases e : c = -1
    · exact ⟨0, by decide, by rw [if_pos e, nI_0]⟩
    · have h0 : ¬ c < 0 := by
        intro z
        apply e
        rw [Int32.lt_iff_toInt_lt] at z h3
        apply Int32.toInt_inj.mp
        have : (-1 : Int32).toInt = -1 := by decide
        have : (0 : Int32).toInt = 0 := by decide
        omega
      obtain ⟨k, hk, ek⟩ := nI_of h0
      refine ⟨k, ?_, by rw [if_neg e, ek]⟩
      rw [ek] at h4
      exact (nI_ltI (a := k) (b := 6) hk (by decide)).mp h4
  obtain ⟨k, hk, ek⟩ := hc
  have e6 : (6 : Int32) = nI 6 := by decide
  rw [ef, ek, e6, pk_mul, nI_add]
  exact ⟨vp_in_nI (by omega) (by omega), by rw [nI_clamp (by omega)]; omega⟩
set_option maxRecDepth 10000 in
set_option maxHeartbeats 1000000 in
theorem c_SourceProgram_placeOf {G : Ctx} {d : Nat} {Γ : List Sh} {σ : Mem} {Q : Option Value → List Sh → Mem → Prop} {q g c : Nat} {bd : Nat → List Int32} {s x : Int32} (hS : isSrc Γ σ q g c bd) (hQ : Q (some (ov G ((plc s x).map (fun i => q + 2 + 2 * i)))) Γ σ) : Ct G M_SourceProgram_placeOf d 0 0 [rf G q, .int s, .int x] Γ σ Q := by
  obtain ⟨s1, s2, s3, s4, s5, s6⟩ := id hS
  refine Ct.of (lv := [some (rf G q), some (.int s), some (.int x), none]) (ll := []) rfl rfl (EN.cat (n := 1) ⟨rfl, rfl, rfl, trivial⟩ (Nat.le_of_ble_eq_true rfl)) ?_
  refine x_iload_n d_SourceProgram_placeOf_0 rfl rfl ?_
  refine x_sipush (v := 200) d_SourceProgram_placeOf_1 (by decide) ?_
  refine x_isub d_SourceProgram_placeOf_4 ?_
  refine x_istore_n d_SourceProgram_placeOf_5 rfl rfl ?_
  refine x_iload_n d_SourceProgram_placeOf_6 rfl rfl ?_
  refine x_if_lt (tgt := 27) d_SourceProgram_placeOf_7 (by decide) (fun c7 => ?_) (fun c7 => ?_)
  · refine x_null d_SourceProgram_placeOf_27 ?_
    first
    | exact x_areturnN d_SourceProgram_placeOf_28 rfl (by
        first
        | (rw [plc, if_pos c7] at hQ; exact hQ)
        | (rw [plc, if_neg c7, if_pos c13] at hQ; exact hQ)
        | (rw [plc, if_neg c7, if_neg c13, if_pos c18] at hQ; exact hQ)
        | (rw [plc, if_neg c7, if_neg c13, if_neg c18, if_neg c24] at hQ; exact hQ))
  · refine x_iload_n d_SourceProgram_placeOf_10 rfl rfl ?_
    refine x_bipush (v := 8) d_SourceProgram_placeOf_11 (by decide) ?_
    refine x_icmp_ge (tgt := 27) d_SourceProgram_placeOf_13 (by decide) (fun c13 => ?_) (fun c13 => ?_)
    · refine x_null d_SourceProgram_placeOf_27 ?_
      first
      | exact x_areturnN d_SourceProgram_placeOf_28 rfl (by
          first
          | (rw [plc, if_pos c7] at hQ; exact hQ)
          | (rw [plc, if_neg c7, if_pos c13] at hQ; exact hQ)
          | (rw [plc, if_neg c7, if_neg c13, if_pos c18] at hQ; exact hQ)
          | (rw [plc, if_neg c7, if_neg c13, if_neg c18, if_neg c24] at hQ; exact hQ))
    · refine x_iload_n d_SourceProgram_placeOf_16 rfl rfl ?_
      refine x_iconst (v := -1) d_SourceProgram_placeOf_17 (by decide) ?_
      refine x_icmp_lt (tgt := 27) d_SourceProgram_placeOf_18 (by decide) (fun c18 => ?_) (fun c18 => ?_)
      · refine x_null d_SourceProgram_placeOf_27 ?_
        first
        | exact x_areturnN d_SourceProgram_placeOf_28 rfl (by
            first
            | (rw [plc, if_pos c7] at hQ; exact hQ)
            | (rw [plc, if_neg c7, if_pos c13] at hQ; exact hQ)
            | (rw [plc, if_neg c7, if_neg c13, if_pos c18] at hQ; exact hQ)
            | (rw [plc, if_neg c7, if_neg c13, if_neg c18, if_neg c24] at hQ; exact hQ))
      · refine x_iload_n d_SourceProgram_placeOf_21 rfl rfl ?_
        refine x_bipush (v := 6) d_SourceProgram_placeOf_22 (by decide) ?_
        refine x_icmp_lt (tgt := 29) d_SourceProgram_placeOf_24 (by decide) (fun c24 => ?_) (fun c24 => ?_)
        · have hpl := plc_in c7 c13 c18 c24
          first | refine x_aload_n d_SourceProgram_placeOf_29 rfl rfl ?_ | refine x_aloadN_n d_SourceProgram_placeOf_29 rfl rfl ?_ | refine x_aloadE_n d_SourceProgram_placeOf_29 rfl rfl ?_
          refine x_getR d_SourceProgram_placeOf_30 f_SourceProgram_11 rfl (by assumption) (by assumption) ?_
          refine x_iload_n d_SourceProgram_placeOf_33 rfl rfl ?_
          refine x_bipush (v := 6) d_SourceProgram_placeOf_34 (by decide) ?_
          refine x_imul d_SourceProgram_placeOf_36 ?_
          refine x_iload_n d_SourceProgram_placeOf_37 rfl rfl ?_
          refine x_iconst (v := -1) d_SourceProgram_placeOf_38 (by decide) ?_
          refine x_icmp_ne (tgt := 46) d_SourceProgram_placeOf_39 (by decide) (fun c39 => ?_) (fun c39 => ?_)
          · refine x_iload_n d_SourceProgram_placeOf_46 rfl rfl ?_
            refine x_iadd d_SourceProgram_placeOf_47 ?_
            first | rw [if_neg c39] at hpl | rw [if_pos c39] at hpl
            refine x_aald d_SourceProgram_placeOf_48 (by assumption) (by decide) (hpl.1) ((s6 _ hpl.2).1) ?_
            exact x_areturn d_SourceProgram_placeOf_49 rfl (by
              rw [plc, if_neg c7, if_neg c13, if_neg c18, if_pos c24] at hQ
              first | (rw [if_neg c39] at hQ; exact hQ) | (rw [if_pos c39] at hQ; exact hQ))
          · refine x_iconst (v := 0) d_SourceProgram_placeOf_42 (by decide) ?_
            refine x_goto (tgt := 47) d_SourceProgram_placeOf_43 (by decide) ?_
            refine x_iadd d_SourceProgram_placeOf_47 ?_
            first | rw [if_neg c39] at hpl | rw [if_pos c39] at hpl
            refine x_aald d_SourceProgram_placeOf_48 (by assumption) (by decide) (hpl.1) ((s6 _ hpl.2).1) ?_
            exact x_areturn d_SourceProgram_placeOf_49 rfl (by
              rw [plc, if_neg c7, if_neg c13, if_neg c18, if_pos c24] at hQ
              first | (rw [if_neg c39] at hQ; exact hQ) | (rw [if_pos c39] at hQ; exact hQ))
        · refine x_null d_SourceProgram_placeOf_27 ?_
          first
          | exact x_areturnN d_SourceProgram_placeOf_28 rfl (by
              first
              | (rw [plc, if_pos c7] at hQ; exact hQ)
              | (rw [plc, if_neg c7, if_pos c13] at hQ; exact hQ)
              | (rw [plc, if_neg c7, if_neg c13, if_pos c18] at hQ; exact hQ)
              | (rw [plc, if_neg c7, if_neg c13, if_neg c18, if_neg c24] at hQ; exact hQ))
theorem plc_lt {s c : Int32} {i : Nat} (h : plc s c = some i) : i < 48 := by
  unfold plc at h
  split at h
  · cases h
  · split at h
    · cases h
    · split at h
      · cases h
      · split at h
        · next h1 h2 h3 h4 => cases h; exact (plc_in h1 h2 h3 h4).2
        · cases h
theorem len24 {l : List Int32} (h : l.length ≤ 24) : (l.take 24).length = l.length := by simp; omega
set_option maxRecDepth 10000 in
set_option maxHeartbeats 1000000 in
theorem c_SourceProgram_bodyOf {G : Ctx} {d : Nat} {Γ : List Sh} {σ : Mem} {Q : Option Value → List Sh → Mem → Prop} {q g c : Nat} {bd : Nat → List Int32} {s x : Int32} (hS : isSrc Γ σ q g c bd) (hQ : Q (some (ov G ((sB bd s x).map (fun i => q + 2 + 2 * i)))) Γ σ) : Ct G M_SourceProgram_bodyOf (d + 1) 0 0 [rf G q, .int s, .int x] Γ σ Q := by
  obtain ⟨s1, s2, s3, s4, s5, s6⟩ := id hS
  refine Ct.of (lv := [some (rf G q), some (.int s), some (.int x), none]) (ll := []) rfl rfl (EN.cat (n := 1) ⟨rfl, rfl, rfl, trivial⟩ (Nat.le_of_ble_eq_true rfl)) ?_
  first | refine x_aload_n d_SourceProgram_bodyOf_0 rfl rfl ?_ | refine x_aloadN_n d_SourceProgram_bodyOf_0 rfl rfl ?_ | refine x_aloadE_n d_SourceProgram_bodyOf_0 rfl rfl ?_
  refine x_iload_n d_SourceProgram_bodyOf_1 rfl rfl ?_
  refine x_iload_n d_SourceProgram_bodyOf_2 rfl rfl ?_
  cases hpl : plc s x with
  | none =>
    refine x_callV2 d_SourceProgram_bodyOf_3 k_SourceProgram_placeOf l_SourceProgram_59 v_SourceProgram_placeOf rfl s_SourceProgram_placeOf (by assumption) RoomE.m (Nat.le_of_ble_eq_true rfl) (c_SourceProgram_placeOf hS ?_)
    rw [hpl]
    refine x_astoreN_n d_SourceProgram_bodyOf_6 rfl rfl ?_
    first | refine x_aload_n d_SourceProgram_bodyOf_7 rfl rfl ?_ | refine x_aloadN_n d_SourceProgram_bodyOf_7 rfl rfl ?_ | refine x_aloadE_n d_SourceProgram_bodyOf_7 rfl rfl ?_
    refine x_ifnullN (tgt := 18) d_SourceProgram_bodyOf_8 (by decide) ?_
    refine x_null d_SourceProgram_bodyOf_18 ?_
    refine x_goto (tgt := 23) d_SourceProgram_bodyOf_19 (by decide) ?_
    first | exact x_areturnN d_SourceProgram_bodyOf_23 rfl (by rw [sB, hpl] at hQ; exact hQ)
  | some i =>
    have hi : i < 48 := plc_lt hpl
    have hrow := (s6 i hi).2.1
    have hle := (s6 i hi).2.2
    have hr0 := hrow.1
    refine x_callV2 d_SourceProgram_bodyOf_3 k_SourceProgram_placeOf l_SourceProgram_59 v_SourceProgram_placeOf rfl s_SourceProgram_placeOf (by assumption) RoomE.m (Nat.le_of_ble_eq_true rfl) (c_SourceProgram_placeOf hS ?_)
    rw [hpl]
    refine x_astore_n (x := q + 2 + 2 * i) d_SourceProgram_bodyOf_6 rfl rfl ?_
    first | refine x_aload_n d_SourceProgram_bodyOf_7 rfl rfl ?_ | refine x_aloadN_n d_SourceProgram_bodyOf_7 rfl rfl ?_ | refine x_aloadE_n d_SourceProgram_bodyOf_7 rfl rfl ?_
    refine x_ifnull d_SourceProgram_bodyOf_8 ?_
    first | refine x_aload_n d_SourceProgram_bodyOf_11 rfl rfl ?_ | refine x_aloadN_n d_SourceProgram_bodyOf_11 rfl rfl ?_ | refine x_aloadE_n d_SourceProgram_bodyOf_11 rfl rfl ?_
    refine x_callV0 d_SourceProgram_bodyOf_12 k_Row_isEmpty l_SourceProgram_67 v_Row_isEmpty rfl s_Row_isEmpty (by assumption) RoomE.m (Nat.le_of_ble_eq_true rfl) (c_Row_isEmpty hrow ?_)
    refine x_if_eq (tgt := 22) d_SourceProgram_bodyOf_15 (by decide) (fun c15 => ?_) (fun c15 => ?_)
    · first | refine x_aload_n d_SourceProgram_bodyOf_22 rfl rfl ?_ | refine x_aloadN_n d_SourceProgram_bodyOf_22 rfl rfl ?_ | refine x_aloadE_n d_SourceProgram_bodyOf_22 rfl rfl ?_
      first
      | exact x_areturnN d_SourceProgram_bodyOf_23 rfl (by rw [len24 hle] at c15; have c16 := of_decide_eq_true (bI_n0 c15); rw [sB, hpl] at hQ; simp only [c16, if_true] at hQ; exact hQ)
      | exact x_areturn d_SourceProgram_bodyOf_23 rfl (by rw [len24 hle] at c15; have c16 := of_decide_eq_false (bI_0 c15); rw [sB, hpl] at hQ; simp only [c16, if_false] at hQ; exact hQ)
    · refine x_null d_SourceProgram_bodyOf_18 ?_
      refine x_goto (tgt := 23) d_SourceProgram_bodyOf_19 (by decide) ?_
      first
      | exact x_areturnN d_SourceProgram_bodyOf_23 rfl (by rw [len24 hle] at c15; have c16 := of_decide_eq_true (bI_n0 c15); rw [sB, hpl] at hQ; simp only [c16, if_true] at hQ; exact hQ)
      | exact x_areturn d_SourceProgram_bodyOf_23 rfl (by rw [len24 hle] at c15; have c16 := of_decide_eq_false (bI_0 c15); rw [sB, hpl] at hQ; simp only [c16, if_false] at hQ; exact hQ)
set_option maxRecDepth 10000 in
set_option maxHeartbeats 1000000 in
theorem c_SourceProgram_variableOf {G : Ctx} {d : Nat} {Γ : List Sh} {σ : Mem} {Q : Option Value → List Sh → Mem → Prop} {q : Nat} {s x k : Int32} (hQ : Q (some (.int k)) Γ σ) : Ct G M_SourceProgram_variableOf d 0 0 [rf G q, .int s, .int x, .int k] Γ σ Q := by
  refine Ct.of (lv := [some (rf G q), some (.int s), some (.int x), some (.int k)]) (ll := []) rfl rfl (EN.cat (n := 0) ⟨rfl, rfl, rfl, rfl, trivial⟩ (Nat.le_of_ble_eq_true rfl)) ?_
  refine x_iload_n d_SourceProgram_variableOf_0 rfl rfl ?_
  exact x_ireturn d_SourceProgram_variableOf_1 rfl (by first | rfl | decide) (hQ)
