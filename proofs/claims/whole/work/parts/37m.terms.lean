/-! terms in Polish notation -/
def nP (P : Int32 → Int32) (s : Int32) : Nat := (P s).toNatClampNeg
def PB (P : Int32 → Int32) : Prop := ∀ s, ∃ m, m ≤ 60 ∧ P s = nI m
theorem PB.le {P : Int32 → Int32} (h : PB P) (s : Int32) : nP P s ≤ 60 ∧ P s = nI (nP P s) := by
  obtain ⟨m, h1, h2⟩ := h s
  unfold nP
  rw [h2, nI_clamp (by omega)]
  exact ⟨h1, rfl⟩
/-- the list is m terms, one behind the other -/
def full (p : Int32 → Nat) : Nat → List Int32 → Bool
  | 0, [] => true
  | 0, _ :: _ => false
  | _ + 1, [] => false
  | m + 1, s :: l => full p (m + p s) l
/-- how many signs the first m terms take -/
def tk (p : Int32 → Nat) : Nat → List Int32 → Nat
  | 0, _ => 0
  | _ + 1, [] => 0
  | m + 1, s :: l => 1 + tk p (m + p s) l
theorem tk_nil {p : Int32 → Nat} : ∀ m, tk p m [] = 0
  | 0 => rfl
  | _ + 1 => rfl
theorem tk_z {p : Int32 → Nat} : ∀ l, tk p 0 l = 0
  | [] => rfl
  | _ :: _ => rfl
theorem full_nil {p : Int32 → Nat} {m : Nat} (h : full p m [] = true) : m = 0 := by
  cases m with
  | zero => rfl
  | succ m => cases h
theorem full_add {p : Int32 → Nat} : ∀ {l1 l2 : List Int32} {a b : Nat}, full p a l1 = true → full p b l2 = true → full p (a + b) (l1 ++ l2) = true
  | [], l2, a, b, h1, h2 => by
    rw [full_nil h1, Nat.zero_add]; exact h2
  | s :: l, l2, 0, b, h1, h2 => by cases h1
  | s :: l, l2, a + 1, b, h1, h2 => by
    have := full_add (l1 := l) (l2 := l2) (a := a + p s) (b := b) h1 h2
    rw [show a + 1 + b = (a + b) + 1 by omega]
    show full p (a + b + p s) (l ++ l2) = true
    rw [show a + b + p s = a + p s + b by omega]
    exact this
theorem tk_le {p : Int32 → Nat} : ∀ (l : List Int32) (m : Nat), tk p m l ≤ l.length
  | [], m => by rw [tk_nil]; exact Nat.le_refl _
  | s :: l, 0 => Nat.zero_le _
  | s :: l, m + 1 => by
    have := tk_le l (m + p s) (p := p)
    show 1 + tk p (m + p s) l ≤ l.length + 1
    omega
theorem full_tk {p : Int32 → Nat} : ∀ (l : List Int32) (a b : Nat), full p (a + b) l = true → full p a (l.take (tk p a l)) = true ∧ full p b (l.drop (tk p a l)) = true
  | [], a, b, h => by
    have h0 := full_nil h
    obtain rfl : a = 0 := by omega
    obtain rfl : b = 0 := by omega
    exact ⟨rfl, rfl⟩
  | s :: l, 0, b, h => by
    rw [Nat.zero_add] at h
    exact ⟨rfl, h⟩
  | s :: l, a + 1, b, h => by
    rw [show a + 1 + b = (a + b) + 1 by omega] at h
    have h' : full p ((a + p s) + b) l = true := by
      rw [show a + p s + b = a + b + p s by omega]; exact h
    have ih := full_tk l (a + p s) b h'
    have e : tk p (a + 1) (s :: l) = tk p (a + p s) l + 1 := by show 1 + _ = _; omega
    rw [e]
    exact ih
theorem tk_add {p : Int32 → Nat} : ∀ (l : List Int32) (a b : Nat), tk p (a + b) l = tk p a l + tk p b (l.drop (tk p a l))
  | [], a, b => by simp [tk_nil]
  | s :: l, 0, b => by simp [tk]
  | s :: l, a + 1, b => by
    have ih := tk_add l (a + p s) b (p := p)
    have e : tk p (a + 1) (s :: l) = tk p (a + p s) l + 1 := by show 1 + _ = _; omega
    rw [show a + 1 + b = (a + b) + 1 by omega]
    rw [e]
    show 1 + tk p (a + b + p s) l = _
    rw [show a + b + p s = a + p s + b by omega, ih]
    simp only [List.drop_succ_cons]
    omega
theorem tk_full {p : Int32 → Nat} : ∀ {l : List Int32} {m : Nat}, full p m l = true → tk p m l = l.length
  | [], m, h => by rw [tk_nil]; rfl
  | s :: l, 0, h => by cases h
  | s :: l, m + 1, h => by
    have := tk_full (l := l) (m := m + p s) h
    show 1 + tk p (m + p s) l = l.length + 1
    omega
theorem tk_app {p : Int32 → Nat} : ∀ {l1 l2 : List Int32} {m : Nat}, full p m l1 = true → tk p m (l1 ++ l2) = l1.length
  | [], l2, m, h => by rw [full_nil h]; exact tk_z _
  | s :: l, l2, 0, h => by cases h
  | s :: l, l2, m + 1, h => by
    have := tk_app (l1 := l) (l2 := l2) (m := m + p s) h
    show 1 + tk p (m + p s) (l ++ l2) = l.length + 1
    omega
theorem full_ne {p : Int32 → Nat} {m : Nat} {l : List Int32} (h : full p (m + 1) l = true) : 0 < l.length := by
  cases l with
  | nil => cases h
  | cons s l => exact Nat.succ_pos _
theorem tk_lt {p : Int32 → Nat} {l : List Int32} {k b : Nat} (h : full p (k + (b + 1)) l = true) : tk p k l < l.length := by
  have h2 := full_ne (full_tk l k (b + 1) h).2
  rw [List.length_drop] at h2
  omega
theorem full_sfx {p : Int32 → Nat} : ∀ {l : List Int32} {m i : Nat}, full p m l = true → i < l.length → ∃ m', full p (m' + 1) (l.drop i) = true
  | [], m, i, h, hi => absurd hi (Nat.not_lt_zero _)
  | s :: l, 0, i, h, hi => by cases h
  | s :: l, m + 1, 0, h, hi => ⟨m, h⟩
  | s :: l, m + 1, i + 1, h, hi => full_sfx (l := l) (m := m + p s) (i := i) h (Nat.lt_of_succ_lt_succ hi)
theorem full_parts {p : Int32 → Nat} {l : List Int32} {m i : Nat} (h : full p m l = true) (hi : i < l.length) : ∃ m', full p (m' + p (l.getD i (-1))) (l.drop (i + 1)) = true := by
  obtain ⟨m', h'⟩ := full_sfx h hi
  rw [drop_cons hi] at h'
  exact ⟨m', h'⟩
theorem nI_le0 {m : Nat} (h : m ≤ 2000000) : (nI m ≤ 0) ↔ m = 0 := by
  have e : (0 : Int32) = nI 0 := by rw [nI_0]
  rw [e, nI_leI (by omega) (by omega)]
  omega
theorem beh_tk {P : Int32 → Int32} (hP : PB P) : ∀ (l : List Int32) (m : Nat), m + 60 * l.length ≤ 1000000 → beh P l (nI m) = tk (nP P) m l
  | [], m, h => by rw [tk_nil]; rfl
  | s :: l, m, h => by
    have h1 := hP.le s
    rw [List.length_cons] at h
    unfold beh
    cases m with
    | zero =>
      rw [if_pos (by rw [nI_le0 (by omega)])]
      rfl
    | succ m =>
      rw [if_neg (by rw [nI_le0 (by omega)]; omega)]
      have e : nI (m + 1) + (P s - 1) = nI (m + nP P s) := by
        have e2 : nI (m + nP P s) = nI m + nI (nP P s) := by rw [nI_add]
        have e3 : nI (m + 1) = nI m + 1 := by rw [nI_1]
        rw [h1.2, e2, e3]
        generalize nI m = x
        generalize nI (nP P s) = y
        have : x + 1 + (y - 1) = x + y := by
          apply Int32.toInt_inj.mp
          simp only [Int32.toInt_add, Int32.toInt_sub]
          have : (1 : Int32).toInt = 1 := by decide
          rw [this]
          simp only [Int.bmod_add_bmod, Int.add_bmod_bmod]
          congr 1
          omega
        exact this
      rw [e, beh_tk hP l (m + nP P s) (by omega)]
      show _ = 1 + _
      omega
theorem behind_tk {P : Int32 → Int32} (hP : PB P) {zs : List Int32} (hz : zs.length ≤ 10000) (i : Nat) : behind P zs i = i + tk (nP P) 1 (zs.drop i) := by
  have e : (1 : Int32) = nI 1 := by decide
  unfold behind
  rw [e, beh_tk hP _ _ (by rw [List.length_drop]; omega)]
theorem ends_tk {P : Int32 → Int32} (hP : PB P) {zs : List Int32} (hz : zs.length ≤ 10000) (i : Nat) : ∀ k, ends P zs i k = i + tk (nP P) k (zs.drop i)
  | 0 => by rw [tk_z]; rfl
  | k + 1 => by
    show behind P zs (ends P zs i k) = _
    rw [behind_tk hP hz, ends_tk hP hz i k, tk_add _ k 1, List.drop_drop]
    omega
theorem behind_ends {P : Int32 → Int32} (hP : PB P) {zs : List Int32} (hz : zs.length ≤ 10000) {i : Nat} (hi : i < zs.length) : behind P zs i = ends P zs (i + 1) (nP P (zs.getD i (-1))) := by
  rw [behind_tk hP hz, ends_tk hP hz, drop_cons hi]
  show i + (1 + tk (nP P) (0 + nP P (zs.getD i (-1))) (zs.drop (i + 1))) = _
  rw [Nat.zero_add]
  omega
theorem ends_lt {P : Int32 → Int32} (hP : PB P) {zs : List Int32} (hz : zs.length ≤ 10000) {i k : Nat} (hi : i < zs.length) (h : full (nP P) 1 zs = true) (hk : k < nP P (zs.getD i (-1))) : ends P zs (i + 1) k < zs.length ∧ i < ends P zs (i + 1) k := by
  obtain ⟨m', h'⟩ := full_parts h hi
  rw [ends_tk hP hz]
  have e : m' + nP P (zs.getD i (-1)) = k + (m' + (nP P (zs.getD i (-1)) - k - 1) + 1) := by omega
  rw [e] at h'
  have := tk_lt h'
  rw [List.length_drop] at this
  omega
theorem behind_gt {P : Int32 → Int32} (hP : PB P) {zs : List Int32} (hz : zs.length ≤ 10000) {i : Nat} (hi : i < zs.length) : i < behind P zs i := by
  rw [behind_tk hP hz, drop_cons hi]
  show i < i + (1 + _)
  omega
