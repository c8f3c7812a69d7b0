/-! pure: the table of signs, the bodies, and what an unfolding in the tree makes -/
def SW (pt : Nat → Int32) (cs : Nat → Bool) : Prop :=
  (∀ i, i < 401 → ∃ m, m ≤ 60 ∧ pt i = nI m) ∧ (∀ i, i < 100 → pt i = 0) ∧ (∀ c, c < 6 → pt (100 + c) = cPt c) ∧ (∀ f, f < 8 → ∃ m, m ≤ 3 ∧ pt (200 + f) = nI m) ∧ pt 400 = 0 ∧ (∀ i, i < 401 → cs i = true → 200 ≤ i ∧ i ≠ 400 ∧ pt i ≠ 0)
def gA (pt : Nat → Int32) (V : Nat) (k : Nat) : Prop := (k < V ∧ k < 100) ∨ (100 ≤ k ∧ k < 106) ∨ (200 ≤ k ∧ k < 208 ∧ pt k ≠ 0)
def lim (pt : Nat → Int32) (cs : Nat → Bool) (f c : Nat) : Nat := if cs (200 + f) = true then nP (sgP pt) (nI (200 + f)) + qK c - 1 else nP (sgP pt) (nI (200 + f))
def BdW (pt : Nat → Int32) (cs : Nat → Bool) (bd : Nat → List Int32) : Prop := ∀ f c, f < 8 → c < 6 → bd (6 * f + c) ≠ [] → pt (200 + f) ≠ 0 ∧ (bd (6 * f + c)).length ≤ 24 ∧ tmq (nP (sgP pt)) (gA pt (lim pt cs f c)) (bd (6 * f + c)) ∧ (cs (200 + f) = false → c = 0)
theorem SW.ok {pt : Nat → Int32} {cs : Nat → Bool} (h : SW pt cs) : SgOK pt cs := by
  refine ⟨fun s => ?_, fun s hs => ?_⟩
  · unfold sgP
    split
    · exact ⟨0, by omega, by rw [nI_0]⟩
    · split
      · exact ⟨0, by omega, by rw [nI_0]⟩
      · next a b => exact h.1 _ (in401 a b).2
  · unfold sgC at hs
    split at hs
    · cases hs
    · next a =>
      split at hs
      · cases hs
      · next b =>
        have hl := (in401 a b).2
        obtain ⟨m, hm, e⟩ := h.1 _ hl
        have h3 := (h.2.2.2.2.2 _ hl hs).2.2
        unfold nP sgP
        rw [if_neg a, if_neg b, e, nI_clamp (by omega)]
        cases m with
        | zero => rw [e, nI_0] at h3; exact absurd rfl h3
        | succ m => omega
theorem SW.v {pt : Nat → Int32} {cs : Nat → Bool} (h : SW pt cs) {k : Nat} (hk : k < 100) : nP (sgP pt) (nI k) = 0 := by
  unfold nP
  rw [sgP_n (by omega), h.2.1 k hk]; rfl
theorem pK_c {c : Nat} (hc : c < 6) : pK (nI c) = cPt c := by
  unfold pK
  rw [if_neg (nI_pos (by omega)), if_neg (show ¬ (6 : Int32) ≤ nI c from nI_ge hc (by decide)), nI_clamp (by omega)]
theorem SW.k {pt : Nat → Int32} {cs : Nat → Bool} (h : SW pt cs) {c : Nat} (hc : c < 6) : nP (sgP pt) (nI (100 + c)) = qK c := by
  unfold nP qK
  rw [sgP_n (by omega), h.2.2.1 c hc, pK_c hc]
theorem nI_sub {a b : Nat} (h : b ≤ a) : nI a - nI b = nI (a - b) := nI_subn h
theorem nI_ap1 {m q : Nat} (h : 1 ≤ m) : nI m + (nI q - 1) = nI (m + q - 1) := by
  obtain ⟨m, rfl⟩ : ∃ r, m = r + 1 := ⟨m - 1, by omega⟩
  rw [show nI (m + 1 + q - 1) = nI m + nI q by rw [nI_add, show m + 1 + q - 1 = m + q by omega], show nI (m + 1) = nI m + 1 by rw [nI_1]]
  generalize nI m = x
  generalize nI q = y
  apply Int32.toInt_inj.mp
  simp only [Int32.toInt_add, Int32.toInt_sub]
  have : (1 : Int32).toInt = 1 := by decide
  rw [this]
  simp only [Int.bmod_add_bmod, Int.add_bmod_bmod]
  congr 1
  omega
theorem call_parts {pt : Nat → Int32} {cs : Nat → Bool} {A : Nat → Prop} {zs : List Int32} {a : Nat} (hW : SW pt cs) (hz : zs.length ≤ 10000) (hf : tmq (nP (sgP pt)) A zs) (ha : a < zs.length) :
    ends (sgP pt) zs (up0 cs zs a) (ucN pt cs zs a) = a + tk (nP (sgP pt)) 1 (zs.drop a) ∧ ∃ b, full (nP (sgP pt)) (b + ucN pt cs zs a) (zs.drop (up0 cs zs a)) = true := by
  have hP := hW.ok.1
  obtain ⟨b, hb⟩ := full_parts hf.1 ha
  by_cases e : caf cs zs a = -1
  · have e1 : up0 cs zs a = a + 1 := by rw [up0, if_pos e]
    have e2 : ucN pt cs zs a = nP (sgP pt) (zs.getD a (-1)) := by rw [ucN, ucI, if_pos e]; rfl
    rw [e1, e2]
    exact ⟨by rw [← behind_ends hP hz ha, behind_tk hP hz], b, hb⟩
  · have hc := caf_c e
    have ha1 := isK_len hc.2
    obtain ⟨k, hk, ek, _⟩ := hf.2.getD ha1
    have hkk := hc.2
    rw [ek, isK_n (by omega)] at hkk
    have hk6 := of_decide_eq_true hkk
    obtain ⟨c, rfl⟩ : ∃ c, k = 100 + c := ⟨k - 100, by omega⟩
    have ec : caf cs zs a = nI c := by
      unfold caf
      rw [hc.1, hc.2, ek]
      show nI (100 + c) - 100 = _
      rw [show (100 : Int32) = nI 100 from rfl, nI_sub (by omega), Nat.add_sub_cancel_left]
    have h1 := hW.ok.2 _ hc.1
    have hp := hP.le (zs.getD a (-1))
    have e1 : up0 cs zs a = a + 2 := by rw [up0, if_neg e]
    have e2 : ucN pt cs zs a = (nP (sgP pt) (zs.getD a (-1)) - 1) + nP (sgP pt) (zs.getD (a + 1) (-1)) := by
      rw [ek, hW.k (by omega)]
      have := ucI_nat (zs := zs) (a := a) hW.ok
      have q := qK_nat c
      have e3 : ucI pt cs zs a = nI ((nP (sgP pt) (zs.getD a (-1)) - 1) + qK c) := by
        rw [ucI, if_neg e, ec, q.2, hp.2]
        rw [nI_ap1 h1]
        exact congrArg nI (by omega)
      rw [ucN, e3, nI_clamp (by omega)]
    obtain ⟨m, hm⟩ : ∃ r, nP (sgP pt) (zs.getD a (-1)) = r + 1 := ⟨nP (sgP pt) (zs.getD a (-1)) - 1, by omega⟩
    rw [hm, drop_cons ha1] at hb
    have hb' : full (nP (sgP pt)) (b + m + nP (sgP pt) (zs.getD (a + 1) (-1))) (zs.drop (a + 2)) = true := hb
    rw [e1, e2, hm]
    refine ⟨?_, b, by rw [show b + (m + 1 - 1 + nP (sgP pt) (zs.getD (a + 1) (-1))) = b + m + nP (sgP pt) (zs.getD (a + 1) (-1)) by omega]; exact hb'⟩
    rw [ends_tk hP hz, drop_cons ha]
    show _ = a + (1 + tk (nP (sgP pt)) (0 + nP (sgP pt) (zs.getD a (-1))) (zs.drop (a + 1)))
    rw [hm, Nat.zero_add, drop_cons ha1]
    show _ = a + (1 + (1 + tk (nP (sgP pt)) (m + nP (sgP pt) (zs.getD (a + 1) (-1))) (zs.drop (a + 2))))
    rw [Nat.add_sub_cancel]
    omega
theorem plc_n {f : Nat} (hf : f < 8) : plc (nI (200 + f)) (-1) = some (6 * f) ∧ ∀ c, c < 6 → plc (nI (200 + f)) (nI c) = some (6 * f + c) := by
  have e : nI (200 + f) - 200 = nI f := by
    rw [show (200 : Int32) = nI 200 from rfl, nI_sub (by omega), Nat.add_sub_cancel_left]
  have h1 : ¬ nI f < 0 := nI_pos (by omega)
  have h2 : ¬ (8 : Int32) ≤ nI f := nI_ge hf (by decide)
  have hm : nI f * 6 = nI (6 * f) := by
    apply Int32.toInt_inj.mp
    rw [Int32.toInt_mul, nI_toInt (by omega), nI_toInt (by omega)]
    have : (6 : Int32).toInt = 6 := by decide
    rw [this, show ((f : Int) * 6) = ((6 * f : Nat) : Int) by omega]
    have : ((6 * f : Nat) : Int) < 2 ^ 31 := by omega
    rw [Int.bmod_eq_of_le (by omega) (by omega)]
  refine ⟨?_, fun c hc => ?_⟩
  · unfold plc
    rw [e, if_neg h1, if_neg h2, if_neg (by decide), if_pos (by decide), if_pos rfl, hm]
    rw [show nI (6 * f) + 0 = nI (6 * f) by rw [show (0 : Int32) = nI 0 from rfl, nI_add]; rfl, nI_clamp (by omega)]
  · unfold plc
    have h3 : ¬ nI c < -1 := fun z => by
      have := Int32.lt_iff_toInt_lt.mp z
      rw [nI_toInt (by omega)] at this
      have q : (-1 : Int32).toInt = -1 := by decide
      omega
    have h4 : ¬ nI c = -1 := fun z => by
      have := congrArg Int32.toInt z
      rw [nI_toInt (by omega)] at this
      have q : (-1 : Int32).toInt = -1 := by decide
      omega
    rw [e, if_neg h1, if_neg h2, if_neg h3, if_pos (show nI c < (6 : Int32) from nI_lt hc (by decide)), if_neg h4, hm, nI_add, nI_clamp (by omega)]
theorem caf_cases {cs : Nat → Bool} {A : Nat → Prop} {zs : List Int32} {a : Nat} (hal : al A zs) : caf cs zs a = -1 ∨ ∃ c, c < 6 ∧ caf cs zs a = nI c ∧ zs.getD (a + 1) (-1) = nI (100 + c) ∧ sgC cs (zs.getD a (-1)) = true ∧ a + 1 < zs.length := by
  by_cases e : caf cs zs a = -1
  · exact Or.inl e
  · have hc := caf_c e
    have ha1 := isK_len hc.2
    obtain ⟨k, hk, ek, _⟩ := hal.getD ha1
    have hkk := hc.2
    rw [ek, isK_n (by omega)] at hkk
    have hk6 := of_decide_eq_true hkk
    obtain ⟨c, rfl⟩ : ∃ c, k = 100 + c := ⟨k - 100, by omega⟩
    refine Or.inr ⟨c, by omega, ?_, ek, hc.1, ha1⟩
    unfold caf
    rw [hc.1, hc.2, ek]
    show nI (100 + c) - 100 = _
    rw [show (100 : Int32) = nI 100 from rfl, nI_sub (by omega), Nat.add_sub_cancel_left]
/-- the call at a: its sign and the body that it unfolds to -/
theorem call_body {pt : Nat → Int32} {cs : Nat → Bool} {bd : Nat → List Int32} {V : Nat} {zs : List Int32} {a : Nat} {g : Nat → Nat} (hW : SW pt cs) (hB : BdW pt cs bd) (hf : al (gA pt V) zs) (ha : a < zs.length) (hc : isC (zs.getD a (-1)) = true) (hu : ufs cs (fun s x => (sB bd s x).map g) zs a = true) :
    tmq (nP (sgP pt)) (gA pt (ucN pt cs zs a)) (sBd bd (zs.getD a (-1)) (caf cs zs a)) := by
  obtain ⟨k, hk, ek, hg⟩ := hf.getD ha
  rw [ek, isC_n (by omega)] at hc
  have hk2 := of_decide_eq_true hc
  have hk8 : k < 208 := by unfold gA at hg; omega
  obtain ⟨f, rfl⟩ : ∃ f, k = 200 + f := ⟨k - 200, by omega⟩
  have hfl : f < 8 := by omega
  have hpl := plc_n hfl
  have hp := hW.ok.1.le (nI (200 + f))
  rcases caf_cases (cs := cs) (a := a) hf with e | ⟨c, hc6, e, ea1, hcs, ha1⟩
  · have hcs : sgC cs (nI (200 + f)) = false := by
      unfold ufs at hu
      rw [ek] at hu
      by_cases z : sgC cs (nI (200 + f)) = true
      · rw [if_pos z, if_pos e] at hu; cases hu
      · exact Bool.eq_false_iff.mpr z
    have hcs' : cs (200 + f) = false := by rw [← hcs, sgC_n (by omega)]
    have hne : bd (6 * f) ≠ [] := by
      unfold ufs at hu
      rw [ek, if_neg (by rw [hcs]; decide), e] at hu
      replace hu : ((sB bd (nI (200 + f)) (-1)).map g).isSome = true := hu
      rw [sB, hpl.1] at hu
      intro z
      simp [z] at hu
    have hbd := hB f 0 hfl (by omega) (by rw [Nat.add_zero]; exact hne)
    rw [Nat.add_zero] at hbd
    have e2 : ucN pt cs zs a = lim pt cs f 0 := by
      rw [ucN, ucI, if_pos e, lim, if_neg (by rw [hcs']; decide), ek]; rfl
    rw [e, ek, sBd, sB, hpl.1, e2]
    have : ¬ (bd (6 * f)).length = 0 := fun z => hne (List.eq_nil_of_length_eq_zero z)
    simp only [this, if_false]
    exact hbd.2.2.1
  · rw [ek] at hcs
    have hcs' : cs (200 + f) = true := by rw [← hcs, sgC_n (by omega)]
    have hne1 : ¬ caf cs zs a = -1 := fun z => by
      rw [e] at z
      have := congrArg Int32.toInt z
      rw [nI_toInt (by omega)] at this
      have q : (-1 : Int32).toInt = -1 := by decide
      omega
    have hne : bd (6 * f + c) ≠ [] := by
      unfold ufs at hu
      rw [ek, if_pos hcs, if_neg hne1, e] at hu
      replace hu : ((sB bd (nI (200 + f)) (nI c)).map g).isSome = true := hu
      rw [sB, hpl.2 c hc6] at hu
      intro z
      simp [z] at hu
    have hbd := hB f c hfl hc6 hne
    have e2 : ucN pt cs zs a = lim pt cs f c := by
      have h1 := hW.ok.2 _ hcs
      have q := qK_nat c
      have e3 : ucI pt cs zs a = nI (nP (sgP pt) (nI (200 + f)) + qK c - 1) := by
        rw [ucI, if_neg hne1, e, q.2, ek, hp.2]
        exact nI_ap1 h1
      rw [ucN, e3, nI_clamp (by omega), lim, if_pos hcs']
    rw [e, ek, sBd, sB, hpl.2 c hc6, e2]
    have : ¬ (bd (6 * f + c)).length = 0 := fun z => hne (List.eq_nil_of_length_eq_zero z)
    simp only [this, if_false]
    exact hbd.2.2.1
theorem uL_tm {pt : Nat → Int32} {cs : Nat → Bool} {bd : Nat → List Int32} {V : Nat} {zs : List Int32} {a : Nat} {g : Nat → Nat} (hW : SW pt cs) (hB : BdW pt cs bd) (hz : zs.length ≤ 10000) (hf : tmq (nP (sgP pt)) (gA pt V) zs) (ha : a < zs.length) (hc : isC (zs.getD a (-1)) = true) (hu : ufs cs (fun s x => (sB bd s x).map g) zs a = true) : tmq (nP (sgP pt)) (gA pt V) (uL pt cs bd zs a) := by
  obtain ⟨h1, b, h2⟩ := call_parts hW hz hf ha
  refine unf_tm hW.ok.1 hz hf ha h1 h2 (call_body hW hB hf.2 ha hc hu) ?_ ?_
  · intro k hk hB
    refine ⟨hW.v hk, k, ?_, rfl⟩
    unfold gA at hB
    omega
  · intro k h1 h2 h3
    unfold gA at h3 ⊢
    rcases h3 with h3 | h3 | h3
    · omega
    · exact Or.inr (Or.inl h3)
    · exact Or.inr (Or.inr h3)
