/-! pure: the well-formed tree -/
def kd (T : TS) (n : Nat) : Int32 := (tD T n).1 7
def dt (T : TS) (n : Nat) : Int32 := (tD T n).1 8
def tmn (T : TS) (n : Nat) : List Int32 := ntm (tD T n)
def lkn (T : TS) (n j : Nat) : Option Nat := (tD T n).2.1 j
def vsub (l m : List Int32) : Prop := ∀ s ∈ l, isV s = true → s ∈ m
/-- n's children are b .. b + c - 1 -/
def Ch (T : TS) (n b c : Nat) : Prop := n < b ∧ b + c ≤ tN T ∧ lkn T n 4 = (if c = 0 then none else some b) ∧ lkn T n 5 = (if c = 0 then none else some (b + c - 1)) ∧ ∀ i, i < c → lkn T (b + i) 3 = some n ∧ lkn T (b + i) 6 = if i + 1 < c then some (b + i + 1) else none
def ndW (pt : Nat → Int32) (V : Nat) (x : ND) : Prop := tmq (nP (sgP pt)) (gA pt V) (ntm x) ∧ (∃ k, k ≤ 8 ∧ x.1 7 = nI k) ∧ x.1 10 = 0 ∧ nrs x = [] ∧ (x.1 7 = 8 → x.2.1 4 = none ∧ x.2.1 5 = none) ∧ (x.1 7 ≠ 6 → x.2.1 9 = none) ∧ (x.1 7 = 3 ∨ x.1 7 = 4 → isC ((ntm x).getD 0 (-1)) = true) ∧ (x.1 7 = 4 → ∃ v, v < 100 ∧ x.1 8 = nI v ∧ nI v ∈ ntm x) ∧ (x.1 7 = 2 → x.1 8 = (ntm x).getD 0 (-1) - 100) ∧ (x.1 7 = 0 ∨ x.1 7 = 1 ∨ x.1 7 = 3 ∨ x.1 7 = 5 ∨ x.1 7 = 8 → x.1 8 = -1)
def FO (T : TS) (n : Nat) : Prop := kd T n = 6 → ∃ u, lkn T n 9 = some u ∧ dt T n = nI u ∧ (kd T u = 3 ∨ kd T u = 4) ∧ renI (tmn T n) (tmn T u) = true ∧ isBel T n u = true
/-- what the children's variables are -/
def EV (P : Int32 → Int32) (T : TS) (n b c : Nat) : Prop :=
  (kd T n = 2 → c = nP P ((tmn T n).getD 0 (-1)) ∧ ∀ i, i < c → vsub (tmn T (b + i)) (tmn T n)) ∧
  (kd T n = 3 → c = 1 ∧ vsub (tmn T b) (tmn T n)) ∧
  (kd T n = 4 → ∀ i, i < c → ∃ cl w, cl < 6 ∧ (tD T (b + i)).1 11 = nI cl ∧ (0 < qK cl → (tD T (b + i)).1 12 = nI w) ∧ w + qK cl ≤ 100 ∧ ∀ s ∈ tmn T (b + i), isV s = true → (s ∈ tmn T n ∧ s ≠ dt T n) ∨ ∃ j, j < qK cl ∧ s = nI (w + j)) ∧
  (kd T n = 7 → ∃ q w, dt T n = nI q ∧ c = q + 1 ∧ (0 < q → (tD T n).1 13 = nI w) ∧ w + q ≤ 100 ∧ (∀ s ∈ tmn T b, isV s = true → s ∈ tmn T n ∨ ∃ j, j < q ∧ s = nI (w + j)) ∧ ∀ i, 1 ≤ i → i < c → vsub (tmn T (b + i)) (tmn T n))
def CH (P : Int32 → Int32) (T : TS) (n : Nat) : Prop := kd T n = 2 ∨ kd T n = 3 ∨ kd T n = 4 ∨ kd T n = 7 → ∃ b c, Ch T n b c ∧ EV P T n b c
/-- h: the node that is being settled -/
def WF (pt : Nat → Int32) (T : TS) (h : Option Nat) : Prop := WL T ∧ tG T = false ∧ ∀ n, n < tN T → ndW pt (tV T) (tD T n) ∧ FO T n ∧ (h ≠ some n → CH (sgP pt) T n)
theorem ndW.mono {pt : Nat → Int32} {V V' : Nat} {x : ND} (h : ndW pt V x) (hv : V ≤ V') : ndW pt V' x :=
  ⟨h.1.mono (fun k _ z => by unfold gA at z ⊢; rcases z with z | z | z; exact Or.inl ⟨by omega, z.2⟩; exact Or.inr (Or.inl z); exact Or.inr (Or.inr z)), h.2⟩
theorem tBel_cg {T T' : TS} {top N : Nat} (h3 : ∀ k, k < N → lkn T' k 3 = lkn T k 3) (hA : ∀ k, k < N → ∀ m, lkn T k 3 = some m → m < k) : ∀ (f : Nat) (o : Option Nat), (∀ u, o = some u → u < N) → tBel T' top f o = tBel T top f o
  | 0, _, _ => rfl
  | f + 1, none, _ => rfl
  | f + 1, some u, ho => by
    unfold tBel
    have hu := ho u rfl
    have e := h3 u hu
    unfold lkn at e
    rw [e]
    split
    · rfl
    · refine tBel_cg h3 hA f _ (fun w hw => ?_)
      have := hA u hu w hw
      omega
theorem isBel_cg {T T' : TS} {n u N : Nat} (h3 : ∀ k, k < N → lkn T' k 3 = lkn T k 3) (hA : ∀ k, k < N → ∀ m, lkn T k 3 = some m → m < k) (hn : n < N) : isBel T' n u = isBel T n u := by
  unfold isBel
  have e := h3 n hn
  unfold lkn at e
  rw [e]
  refine tBel_cg h3 hA _ _ (fun w hw => ?_)
  have := hA n hn w hw
  omega
theorem tBel_lt {T : TS} {top N : Nat} (hA : ∀ k, k < N → ∀ m, lkn T k 3 = some m → m < k) : ∀ {f : Nat} {o : Option Nat}, (∀ u, o = some u → u < N) → tBel T top f o = true → ∃ u, o = some u ∧ top ≤ u
  | 0, _, _, h => by cases h
  | f + 1, none, _, h => by cases h
  | f + 1, some u, ho, h => by
    unfold tBel at h
    split at h
    · next e => exact ⟨u, rfl, by omega⟩
    · have hu := ho u rfl
      obtain ⟨w, hw, hl⟩ := tBel_lt hA (fun w hw => by have := hA u hu w hw; omega) h
      have := hA u hu w hw
      exact ⟨u, rfl, by omega⟩
theorem isBel_lt {T : TS} {n u : Nat} (hA : AW T) (hn : n < tN T) (h : isBel T n u = true) : u < n := by
  obtain ⟨w, hw, hl⟩ := tBel_lt (N := tN T) (fun k hk m e => hA k hk m e) (fun w hw => by have := hA n hn w hw; omega) h
  have := hA n hn w hw
  omega
theorem tBel_up {T : TS} {top : Nat} : ∀ {f g : Nat} {o : Option Nat}, f ≤ g → tBel T top f o = true → tBel T top g o = true
  | 0, _, _, _, h => by cases h
  | f + 1, 0, _, hl, _ => by omega
  | f + 1, g + 1, none, _, h => by cases h
  | f + 1, g + 1, some u, hl, h => by
    unfold tBel at h ⊢
    split
    · rfl
    · next z =>
      rw [if_neg z] at h
      exact tBel_up (by omega) h
theorem tBel_tr {T : TS} {m top : Nat} (hm : isBel T m top = true) : ∀ {f : Nat} {o : Option Nat}, tBel T m f o = true → ∀ g, f + m ≤ g → tBel T top g o = true
  | 0, _, h, _, _ => by cases h
  | f + 1, none, h, _, _ => by cases h
  | f + 1, some u, h, g, hg => by
    obtain ⟨g, rfl⟩ : ∃ r, g = r + 1 := ⟨g - 1, by omega⟩
    unfold tBel at h ⊢
    split
    · rfl
    · split at h
      · next e =>
        subst e
        exact tBel_up (by omega) hm
      · exact tBel_tr hm h g (by omega)
theorem tBel_f {T : TS} {top : Nat} (hA : AW T) : ∀ {f g : Nat} {o : Option Nat}, (∀ u, o = some u → u < f ∧ u < tN T) → tBel T top g o = true → tBel T top f o = true
  | 0, g, none, _, h => by rw [tBel_none] at h; cases h
  | 0, g, some u, ho, h => absurd (ho u rfl).1 (Nat.not_lt_zero _)
  | f + 1, 0, _, _, h => by cases h
  | f + 1, g + 1, none, _, h => by cases h
  | f + 1, g + 1, some u, ho, h => by
    unfold tBel at h ⊢
    split
    · rfl
    · next z =>
      rw [if_neg z] at h
      exact tBel_f hA (fun w hw => by have := hA u (ho u rfl).2 w hw; have := ho u rfl; omega) h
theorem isBel_tr {T : TS} {n m top : Nat} (hA : AW T) (hn : n < tN T) (h1 : isBel T n m = true) (h2 : isBel T m top = true) : isBel T n top = true := by
  have := tBel_tr h2 h1 (n + m) (Nat.le_refl _)
  exact tBel_f hA (fun w hw => by have := hA n hn w hw; omega) this
/-- the data of a node that CH and FO look at carry over -/
theorem CH.tr {P : Int32 → Int32} {T T' : TS} {m : Nat} (h : CH P T m) (hm : m < tN T) (h7 : kd T' m = kd T m) (h8 : dt T' m = dt T m) (h13 : (tD T' m).1 13 = (tD T m).1 13) (h4 : lkn T' m 4 = lkn T m 4) (h5 : lkn T' m 5 = lkn T m 5) (ht : ∀ k, k < tN T → tmn T' k = tmn T k)
    (hk : ∀ k, k < tN T → lkn T k 3 = some m → lkn T' k 3 = lkn T k 3 ∧ lkn T' k 6 = lkn T k 6 ∧ (tD T' k).1 11 = (tD T k).1 11 ∧ (tD T' k).1 12 = (tD T k).1 12) (hN : tN T ≤ tN T') : CH P T' m := by
  intro hx
  rw [h7] at hx
  obtain ⟨b, c, hc, he⟩ := h hx
  have hb : ∀ i, i < c → b + i < tN T := fun i hi => by have := hc.2.1; omega
  have hkk : ∀ i, i < c → _ := fun i hi => hk (b + i) (hb i hi) (hc.2.2.2.2 i hi).1
  refine ⟨b, c, ⟨hc.1, by have := hc.2.1; omega, by rw [h4]; exact hc.2.2.1, by rw [h5]; exact hc.2.2.2.1, fun i hi => ?_⟩, ?_⟩
  · rw [(hkk i hi).1, (hkk i hi).2.1]
    exact hc.2.2.2.2 i hi
  · refine ⟨fun e => ?_, fun e => ?_, fun e => ?_, fun e => ?_⟩
    · rw [h7] at e
      have := he.1 e
      rw [ht m hm]
      exact ⟨this.1, fun i hi => by rw [ht _ (hb i hi)]; exact this.2 i hi⟩
    · rw [h7] at e
      have := he.2.1 e
      rw [ht m hm, ht b (by have := hb 0 (by omega); omega)]
      exact this
    · rw [h7] at e
      intro i hi
      have := he.2.2.1 e i hi
      rw [ht m hm, ht _ (hb i hi), (hkk i hi).2.2.1, (hkk i hi).2.2.2, h8]
      exact this
    · rw [h7] at e
      obtain ⟨q, w, g1, g2, g3, g4, g5, g6⟩ := he.2.2.2 e
      refine ⟨q, w, by rw [h8]; exact g1, g2, by rw [h13]; exact g3, g4, ?_, fun i h1 hi => ?_⟩
      · rw [ht m hm, ht b (by have := hb 0 (by omega); omega)]
        exact g5
      · rw [ht m hm, ht _ (hb i hi)]
        exact g6 i h1 hi
theorem FO.tr {T T' : TS} {n : Nat} (h : FO T n) (hA : AW T) (hn : n < tN T) (h7 : kd T' n = kd T n) (h8 : dt T' n = dt T n) (h9 : lkn T' n 9 = lkn T n 9) (ht : ∀ k, k < tN T → tmn T' k = tmn T k) (h3 : ∀ k, k < tN T → lkn T' k 3 = lkn T k 3) (hk : ∀ u, u < n → isBel T n u = true → kd T u = 3 ∨ kd T u = 4 → kd T' u = 3 ∨ kd T' u = 4) : FO T' n := by
  intro e
  rw [h7] at e
  obtain ⟨u, g1, g2, g3, g4, g5⟩ := h e
  have hu := isBel_lt hA hn g5
  refine ⟨u, by rw [h9]; exact g1, by rw [h8]; exact g2, hk u hu g5 g3, by rw [ht n hn, ht u (by omega)]; exact g4, ?_⟩
  rw [isBel_cg (N := tN T) h3 (fun k hk m e => hA k hk m e) hn]
  exact g5
