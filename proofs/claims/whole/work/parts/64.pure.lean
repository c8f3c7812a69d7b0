/-! pure: signs by number, terms, what an unfolding makes -/
theorem nIlt {a b : Nat} (ha : a < 2000000) (hb : b < 2000000) : (nI a < nI b) = (a < b) := propext (nI_ltI (by omega) (by omega))
theorem nIle {a b : Nat} (ha : a < 2000000) (hb : b < 2000000) : (nI a ≤ nI b) = (a ≤ b) := propext (nI_leI (by omega) (by omega))
theorem isV_n {k : Nat} (h : k < 2000000) : isV (nI k) = decide (k < 100) := by
  unfold isV
  rw [if_neg (nI_pos (by omega))]
  by_cases z : k < 100
  · rw [if_neg (show ¬ (100 : Int32) ≤ nI k from nI_ge z (by decide)), decide_eq_true z]
  · rw [if_pos (show (100 : Int32) ≤ nI k from nI_le (show 100 ≤ k by omega) (by omega)), decide_eq_false z]
theorem isK_n {k : Nat} (h : k < 2000000) : isK (nI k) = decide (100 ≤ k ∧ k < 106) := by
  unfold isK
  by_cases z : k < 100
  · rw [if_pos (show nI k < (100 : Int32) from nI_lt z (by decide)), decide_eq_false (by omega)]
  · rw [if_neg (show ¬ nI k < (100 : Int32) from nI_nlt (show 100 ≤ k by omega) (by omega))]
    by_cases y : 106 ≤ k
    · rw [if_pos (show (106 : Int32) ≤ nI k from nI_le y (by omega)), decide_eq_false (by omega)]
    · rw [if_neg (show ¬ (106 : Int32) ≤ nI k from nI_ge (show k < 106 by omega) (by decide)), decide_eq_true (by omega)]
theorem isC_n {k : Nat} (h : k < 2000000) : isC (nI k) = decide (200 ≤ k) := by
  unfold isC
  by_cases z : k < 200
  · rw [if_pos (show nI k < (200 : Int32) from nI_lt z (by decide)), decide_eq_false (by omega)]
  · rw [if_neg (show ¬ nI k < (200 : Int32) from nI_nlt (show 200 ≤ k by omega) (by omega)), decide_eq_true (by omega)]
theorem sgP_n {pt : Nat → Int32} {k : Nat} (h : k < 401) : sgP pt (nI k) = pt k := by
  unfold sgP
  rw [if_neg (nI_pos (by omega)), if_neg (show ¬ (401 : Int32) ≤ nI k from nI_ge h (by decide)), nI_clamp (by omega)]
theorem sgC_n {cs : Nat → Bool} {k : Nat} (h : k < 401) : sgC cs (nI k) = cs k := by
  unfold sgC
  rw [if_neg (nI_pos (by omega)), if_neg (show ¬ (401 : Int32) ≤ nI k from nI_ge h (by decide)), nI_clamp (by omega)]
/-- all signs are numbers of A -/
def al (A : Nat → Prop) (l : List Int32) : Prop := ∀ s ∈ l, ∃ k, k ≤ 400 ∧ s = nI k ∧ A k
def tmq (p : Int32 → Nat) (A : Nat → Prop) (l : List Int32) : Prop := full p 1 l = true ∧ al A l
theorem al.mono {A B : Nat → Prop} {l : List Int32} (h : al A l) (hi : ∀ k, k ≤ 400 → A k → B k) : al B l := fun s hs => by
  obtain ⟨k, h1, h2, h3⟩ := h s hs
  exact ⟨k, h1, h2, hi k h1 h3⟩
theorem tmq.mono {p : Int32 → Nat} {A B : Nat → Prop} {l : List Int32} (h : tmq p A l) (hi : ∀ k, k ≤ 400 → A k → B k) : tmq p B l := ⟨h.1, h.2.mono hi⟩
theorem al.sub {A : Nat → Prop} {l m : List Int32} (h : al A l) (hs : ∀ s ∈ m, s ∈ l) : al A m := fun s z => h s (hs s z)
theorem al.app {A : Nat → Prop} {l m : List Int32} (h : al A l) (h2 : al A m) : al A (l ++ m) := fun s z => by
  rcases List.mem_append.mp z with z | z
  · exact h s z
  · exact h2 s z
theorem al.getD {A : Nat → Prop} {l : List Int32} {i : Nat} (h : al A l) (hi : i < l.length) : ∃ k, k ≤ 400 ∧ l.getD i (-1) = nI k ∧ A k := by
  refine h _ ?_
  rw [List.getD_eq_getElem?_getD, List.getElem?_eq_getElem hi]
  exact List.getElem_mem hi
theorem al.take {A : Nat → Prop} {l : List Int32} (h : al A l) (i : Nat) : al A (l.take i) := h.sub fun _ z => List.mem_of_mem_take z
theorem al.drop {A : Nat → Prop} {l : List Int32} (h : al A l) (i : Nat) : al A (l.drop i) := h.sub fun _ z => List.mem_of_mem_drop z
theorem full_flat {p : Int32 → Nat} {F : Int32 → List Int32} : ∀ {l : List Int32} {m : Nat}, (∀ s ∈ l, (p s = 0 ∧ full p 1 (F s) = true) ∨ F s = [s]) → full p m l = true → full p m (l.flatMap F) = true
  | [], m, _, h => h
  | s :: l, 0, _, h => by cases h
  | s :: l, m + 1, hF, h => by
    rw [List.flatMap_cons]
    have ih := full_flat (F := F) (fun t ht => hF t (List.mem_cons_of_mem _ ht)) (show full p (m + p s) l = true from h)
    rcases hF s List.mem_cons_self with ⟨h0, h1⟩ | h1
    · rw [h0, Nat.add_zero] at ih
      rw [Nat.add_comm m 1]
      exact full_add h1 ih
    · rw [h1]
      exact ih
theorem full_repl {p : Int32 → Nat} : ∀ {l : List Int32} {m i : Nat} {w : List Int32}, full p m l = true → i < l.length → full p 1 w = true → full p m (l.take i ++ w ++ l.drop (i + tk p 1 (l.drop i))) = true
  | [], m, i, w, h, hi, _ => absurd hi (Nat.not_lt_zero _)
  | s :: l, 0, i, w, h, hi, _ => by cases h
  | s :: l, m + 1, 0, w, h, hi, hw => by
    have h2 := (full_tk (s :: l) 1 m (by rw [Nat.add_comm 1 m]; exact h)).2
    rw [Nat.add_comm m 1, List.take_zero, List.nil_append, Nat.zero_add, List.drop_zero]
    exact full_add hw h2
  | s :: l, m + 1, i + 1, w, h, hi, hw => by
    have ih := full_repl (l := l) (m := m + p s) (i := i) (w := w) h (Nat.lt_of_succ_lt_succ hi) hw
    rw [show i + 1 + tk p 1 ((s :: l).drop (i + 1)) = (i + tk p 1 (l.drop i)) + 1 by rw [List.drop_succ_cons]; omega, List.drop_succ_cons, List.take_succ_cons]
    exact ih
theorem full_seg {p : Int32 → Nat} {l : List Int32} {m i : Nat} (h : full p m l = true) (hi : i < l.length) : full p 1 ((l.drop i).take (tk p 1 (l.drop i))) = true := by
  obtain ⟨m', h'⟩ := full_sfx h hi
  exact (full_tk (l.drop i) 1 m' (by rw [Nat.add_comm 1 m']; exact h')).1
theorem full_le {p : Int32 → Nat} {l : List Int32} {m : Nat} (h : full p m l = true) : m ≤ l.length := by
  induction l generalizing m with
  | nil => rw [full_nil h]; exact Nat.le_refl _
  | cons s l ih =>
    cases m with
    | zero => exact Nat.zero_le _
    | succ m =>
      have := ih (show full p (m + p s) l = true from h)
      rw [List.length_cons]
      omega
theorem full_one {p : Int32 → Nat} {s : Int32} (h : p s = 0) : full p 1 [s] = true := by
  show full p (0 + p s) [] = true
  rw [h]; rfl
/-- the k-th of cnt terms -/
theorem full_kth {p : Int32 → Nat} {l : List Int32} {b cnt k : Nat} (h : full p (b + cnt) l = true) (hk : k < cnt) : full p 1 ((l.drop (tk p k l)).take (tk p 1 (l.drop (tk p k l)))) = true := by
  have h1 := (full_tk l k (b + (cnt - k - 1) + 1) (by rw [show k + (b + (cnt - k - 1) + 1) = b + cnt by omega]; exact h)).2
  exact (full_tk _ 1 (b + (cnt - k - 1)) (by rw [Nat.add_comm 1 _]; exact h1)).1
theorem seg_eq {P : Int32 → Int32} (hP : PB P) {zs : List Int32} (hz : zs.length ≤ 10000) (p0 k : Nat) : (zs.take (ends P zs p0 (k + 1))).drop (ends P zs p0 k) = ((zs.drop p0).drop (tk (nP P) k (zs.drop p0))).take (tk (nP P) 1 ((zs.drop p0).drop (tk (nP P) k (zs.drop p0)))) := by
  rw [ends_tk hP hz, ends_tk hP hz, tk_add _ k 1, List.drop_take, List.drop_drop]
  congr 1
  omega
theorem uS_cases {P : Int32 → Int32} {zs : List Int32} {pv : Nat → Int32} {p0 : Nat} {s : Int32} : ∀ (j : Nat), uS P zs pv p0 j s = [s] ∧ (isV s = true → ∀ k, k < j → s ≠ pv k) ∨ ∃ k, k < j ∧ isV s = true ∧ s = pv k ∧ uS P zs pv p0 j s = (zs.take (ends P zs p0 (k + 1))).drop (ends P zs p0 k)
  | 0 => Or.inl ⟨rfl, fun _ k hk => absurd hk (Nat.not_lt_zero _)⟩
  | j + 1 => by
    unfold uS
    by_cases e : isV s = true ∧ s = pv j
    · rw [if_pos e]
      exact Or.inr ⟨j, Nat.lt_succ_self _, e.1, e.2, rfl⟩
    · rw [if_neg e]
      rcases uS_cases (P := P) (zs := zs) (pv := pv) (p0 := p0) (s := s) j with h | ⟨k, h1, h2, h3, h4⟩
      · refine Or.inl ⟨h.1, fun hv k hk => ?_⟩
        by_cases ek : k = j
        · rw [ek]; exact fun z => e ⟨hv, z⟩
        · exact h.2 hv k (by omega)
      · exact Or.inr ⟨k, by omega, h2, h3, h4⟩
/-- what is unfolded is a term: the parts bound are cnt terms from p0, the body's variables are all bound -/
theorem unf_tm {P : Int32 → Int32} {A B : Nat → Prop} {zs bs : List Int32} {pv : Nat → Int32} {a p0 cnt b : Nat} (hP : PB P) (hz : zs.length ≤ 10000) (hf : tmq (nP P) A zs) (ha : a < zs.length) (he : ends P zs p0 cnt = a + tk (nP P) 1 (zs.drop a)) (hc : full (nP P) (b + cnt) (zs.drop p0) = true) (hb : tmq (nP P) B bs)
    (hv : ∀ k, k < 100 → B k → nP P (nI k) = 0 ∧ ∃ j, j < cnt ∧ nI k = pv j) (hAB : ∀ k, 100 ≤ k → k ≤ 400 → B k → A k) : tmq (nP P) A (unf P zs pv a p0 cnt bs) := by
  have key : ∀ s ∈ bs, ((nP P s = 0 ∧ full (nP P) 1 (uS P zs pv p0 cnt s) = true) ∨ uS P zs pv p0 cnt s = [s]) ∧ al A (uS P zs pv p0 cnt s) := by
    intro s hs
    obtain ⟨k, hk, rfl, hB⟩ := hb.2 s hs
    rcases uS_cases (P := P) (zs := zs) (pv := pv) (p0 := p0) (s := nI k) cnt with h | ⟨j, h1, h2, h3, h4⟩
    · refine ⟨Or.inr h.1, ?_⟩
      rw [h.1]
      intro t ht
      rw [List.mem_singleton.mp ht]
      by_cases z : k < 100
      · obtain ⟨_, j, hj, e⟩ := hv k z hB
        exact absurd e (h.2 (by rw [isV_n (by omega), decide_eq_true z]) j hj)
      · exact ⟨k, hk, rfl, hAB k (by omega) hk hB⟩
    · rw [isV_n (by omega)] at h2
      have z := of_decide_eq_true h2
      refine ⟨Or.inl ⟨(hv k z hB).1, ?_⟩, ?_⟩
      · rw [h4, seg_eq hP hz]
        exact full_kth hc h1
      · rw [h4]
        exact (hf.2.take _).drop _
  refine ⟨?_, ?_⟩
  · unfold unf
    rw [he]
    refine full_repl hf.1 ha (full_flat (fun s hs => (key s hs).1) hb.1)
  · unfold unf
    refine ((hf.2.take _).app ?_).app (hf.2.drop _)
    intro t ht
    obtain ⟨s, hs, hts⟩ := List.mem_flatMap.mp ht
    exact (key s hs).2 t hts
