/-! Signs.findEnds, isMarked, embeddedInParts, couples, isEmbedded -/
theorem x_lcmp {G : Ctx} {M : Mth} {E : Ev} {bc bs pc : Nat} {lv : List (Option Value)} {ll : List (Nat × Int64)} {st : List Value} {Γ : List Sh} {σ : Mem} {x y : Int64} (hd : decode (mcd M) pc = .ok (.lcmp, 1)) (k : Wq G M E bc bs (pc + 1) lv ll (.int (lg_cmp x y) :: st) Γ σ) : Wq G M E bc bs pc lv ll (.long y :: .long x :: st) Γ σ := Wq.lift (fun hx hb hl kk => W.lcmp hx hb hd kk) k
theorem nI_m1 (m : Nat) : nI (m + 1) - 1 = nI m := by
  rw [← nI_1]
  exact Int32.add_sub_cancel _ _
theorem nI_d1 (m : Nat) : nI (m + 1) + -1 = nI m := by
  have e : nI (m + 1) + -1 = nI (m + 1) - 1 := by
    rw [Int32.sub_eq_add_neg]
  rw [e, nI_m1]
theorem neg1 : (nI 0 - 1 : Int32) < 0 := by decide
theorem nI_nneg (m : Nat) (h : m < 2 ^ 31) : ¬ nI m < 0 := by
  have e : (0 : Int32) = nI 0 := by rw [nI_0]
  rw [e, nI_ltI (by omega) (by omega)]
  omega
/-- bit i of a long -/
def bitL (v : Int64) (i : Nat) : Bool := v.toBitVec.getLsbD i
theorem bitL_or (x y : Int64) (i : Nat) : bitL (x ||| y) i = (bitL x i || bitL y i) := by simp [bitL, Int64.toBitVec_or]
theorem bitL_0 (i : Nat) : bitL 0 i = false := by simp [bitL]
theorem sh_nat {i : Nat} (h : i < 64) : ((nI i).toInt64.toUInt64 &&& Int64.toUInt64 63).toNat = i := by
  have h2 : ∀ i, i < 64 → ((nI i).toInt64.toUInt64 &&& Int64.toUInt64 63).toNat = i := by decide
  exact h2 i h
theorem shl_one {i : Nat} (h : i < 64) : ∀ j, bitL ((1 : Int64) <<< ((nI i).toInt64 &&& 63)) j = decide (j = i) := by
  have h2 : ∀ i, i < 64 → ((1 : Int64) <<< ((nI i).toInt64 &&& 63)).toBitVec = BitVec.twoPow 64 i := by decide
  intro j
  unfold bitL
  rw [h2 i h, BitVec.getLsbD_twoPow]
  simp [h]
  by_cases e : j = i
  · simp [e]
  · simp [e, Ne.symm e]
theorem mark_bit {v : Int64} {i : Nat} (h : i < 64) : (lg_cmp ((v.toUInt64 >>> ((nI i).toInt64.toUInt64 &&& Int64.toUInt64 63)).toInt64 &&& 1) 0 = 0) ↔ bitL v i = false := by
  have e1 : (lg_cmp ((v.toUInt64 >>> ((nI i).toInt64.toUInt64 &&& Int64.toUInt64 63)).toInt64 &&& 1) 0 = 0) ↔ ((v.toUInt64 >>> ((nI i).toInt64.toUInt64 &&& Int64.toUInt64 63)).toInt64 &&& 1) = 0 := by
    generalize ((v.toUInt64 >>> ((nI i).toInt64.toUInt64 &&& Int64.toUInt64 63)).toInt64 &&& 1) = x
    unfold lg_cmp
    by_cases h1 : (0 : Int64) < x
    · rw [if_pos h1]
      constructor
      · intro z; cases z
      · intro z; rw [z] at h1; exact absurd h1 (by decide)
    · rw [if_neg h1]
      by_cases h2 : x = 0
      · rw [if_pos h2]; simp [h2]
      · rw [if_neg h2]
        constructor
        · intro z; cases z
        · intro z; exact absurd z h2
  rw [e1]
  have e2 : ((v.toUInt64 >>> ((nI i).toInt64.toUInt64 &&& Int64.toUInt64 63)).toInt64).toBitVec = v.toBitVec >>> i := by
    have h3 : (v.toUInt64 >>> ((nI i).toInt64.toUInt64 &&& Int64.toUInt64 63)).toBitVec = v.toUInt64.toBitVec >>> ((((nI i).toInt64.toUInt64 &&& Int64.toUInt64 63)).toBitVec % 64) := UInt64.toBitVec_shiftRight _ _
    have h4 : ((((nI i).toInt64.toUInt64 &&& Int64.toUInt64 63)).toBitVec % 64).toNat = i := by
      have h2 : ∀ i, i < 64 → ((((nI i).toInt64.toUInt64 &&& Int64.toUInt64 63)).toBitVec % 64).toNat = i := by decide
      exact h2 i h
    show (v.toUInt64 >>> ((nI i).toInt64.toUInt64 &&& Int64.toUInt64 63)).toBitVec = _
    rw [h3]
    show v.toUInt64.toBitVec >>> ((((nI i).toInt64.toUInt64 &&& Int64.toUInt64 63)).toBitVec % 64).toNat = _
    rw [h4]
    rfl
  constructor
  · intro z
    have z2 := congrArg Int64.toBitVec z
    rw [Int64.toBitVec_and, e2] at z2
    have z3 := congrArg (fun b => BitVec.getLsbD b 0) z2
    simp at z3
    unfold bitL
    rw [BitVec.getLsbD]
    exact z3
  · intro z
    apply Int64.toBitVec_inj.mp
    rw [Int64.toBitVec_and, e2]
    apply BitVec.eq_of_getLsbD_eq
    intro j hj
    by_cases h0 : j = 0
    · subst h0
      simp
      exact z
    · have : (1 : Int64).toBitVec.getLsbD j = false := by
        show (1#64).getLsbD j = false
        rw [BitVec.getLsbD_one]
        simp [h0]
      rw [BitVec.getLsbD_and, this]
      simp
