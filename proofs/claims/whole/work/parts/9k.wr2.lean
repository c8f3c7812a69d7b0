/-! pure: the residual terms -/
theorem aabL_ch {T : TS} {n b c : Nat} (hC : Ch T n b c) : ∀ (d i f : Nat) (l : List Int32), i + d = c → d ≤ f → aabL T f (if i < c then some (b + i) else none) l = l ++ (List.range' i d).flatMap (fun i => r100 T (b + i))
  | 0, i, f, l, hi, _ => by
    rw [if_neg (by omega), aabL_none]
    simp
  | d + 1, i, f, l, hi, hf => by
    obtain ⟨f, rfl⟩ : ∃ r, f = r + 1 := ⟨f - 1, by omega⟩
    rw [if_pos (by omega)]
    have h6 : (tD T (b + i)).2.1 6 = if i + 1 < c then some (b + (i + 1)) else none := (hC.2.2.2.2 i (by omega)).2
    show aabL T f ((tD T (b + i)).2.1 6) (l ++ r100 T (b + i)) = _
    rw [h6, aabL_ch hC d (i + 1) f _ (by omega) (by omega), List.range'_succ, List.flatMap_cons, List.append_assoc]
theorem letE_ch {T : TS} {n b c : Nat} (hC : Ch T n b c) {k : Nat} (hk : k ≤ 400) : ∀ (d i f w : Nat) (F : Int32 → List Int32), i + d = c → d ≤ f → w + d ≤ 1000 → letE T f (if i < c then some (b + i) else none) (nI w) F (nI k) = if w ≤ k ∧ k < w + d ∧ k < 100 then r100 T (b + i + (k - w)) else F (nI k)
  | 0, i, f, w, F, hi, _, _ => by
    rw [if_neg (by omega), letE_none, if_neg (by omega)]
  | d + 1, i, f, w, F, hi, hf, hw => by
    obtain ⟨f, rfl⟩ : ∃ r, f = r + 1 := ⟨f - 1, by omega⟩
    rw [if_pos (by omega)]
    have h6 : (tD T (b + i)).2.1 6 = if i + 1 < c then some (b + (i + 1)) else none := (hC.2.2.2.2 i (by omega)).2
    show letE T f ((tD T (b + i)).2.1 6) (nI w + 1) _ (nI k) = _
    have e1 : nI w + 1 = nI (w + 1) := nI_1 w
    rw [h6, e1, letE_ch hC hk d (i + 1) f (w + 1) _ (by omega) (by omega) (by omega)]
    by_cases h : w + 1 ≤ k ∧ k < w + 1 + d ∧ k < 100
    · rw [if_pos h, if_pos ⟨by omega, by omega, h.2.2⟩]
      congr 1
      omega
    · rw [if_neg h]
      by_cases h2 : k = w ∧ k < 100
      · have q1 : isV (nI k) = true ∧ nI k = nI w := ⟨by rw [isV_n (by omega)]; exact decide_eq_true h2.2, by rw [h2.1]⟩
        have q2 : w ≤ k ∧ k < w + (d + 1) ∧ k < 100 := ⟨by omega, by omega, h2.2⟩
        rw [if_pos q1, if_pos q2]
        congr 1
        omega
      · have q1 : ¬ (isV (nI k) = true ∧ nI k = nI w) := fun ⟨z1, z2⟩ => by
          rw [isV_n (by omega)] at z1
          exact h2 ⟨nI_inj z2 (by omega) (by omega), of_decide_eq_true z1⟩
        have q2 : ¬ (w ≤ k ∧ k < w + (d + 1) ∧ k < 100) := fun z => h2 ⟨by omega, z.2.2⟩
        rw [if_neg q1, if_neg q2]
def rA (T : TS) (k j : Nat) : Prop := (j < 100 ∧ nI j ∈ tmn T k) ∨ (100 ≤ j ∧ j < 106) ∨ (∃ m, m < tN T ∧ fnT T m = true ∧ j = 300 + m) ∨ j = 400
def IS (pt : Nat → Int32) (T T' : TS) (m : Nat) : Prop := TE T T' ∧ (∀ k, k < tN T → (tD T' k).1 10 = bI (fnT T k)) ∧ (∀ k, (k < m ∨ fnT T k = true) → k < tN T → nrs (tD T' k) = if fnT T k = true then nI (300 + k) :: pF T k else []) ∧ ∀ k, m ≤ k → k < tN T → (nrs (tD T' k)).length ≤ 100 ∧ (kd T k = 0 → nrs (tD T' k) = []) ∧ (kd T k ≠ 0 → tmq (nP (sgP pt)) (rA T k) (nrs (tD T' k)))
theorem full_vars {p : Int32 → Nat} : ∀ {l : List Int32}, (∀ s ∈ l, p s = 0) → full p l.length l = true
  | [], _ => rfl
  | s :: l, h => by
    show full p (l.length + p s) l = true
    rw [h s (by simp), Nat.add_zero]
    exact full_vars (fun x hx => h x (by simp [hx]))
theorem full_rng {p : Int32 → Nat} {f : Nat → List Int32} : ∀ {c : Nat}, (∀ i, i < c → full p 1 (f i) = true) → full p c ((List.range c).flatMap f) = true
  | 0, _ => rfl
  | c + 1, h => by
    rw [range_s]
    exact full_add (full_rng (fun i hi => h i (by omega))) (h c (by omega))
theorem ren_v {zs ws : List Int32} {i : Nat} (h : renI zs ws = true) (hi : i < zs.length) (hv : isV (ws.getD i (-1)) = true) : isV (zs.getD i (-1)) = true := by
  unfold renI at h
  have h2 := of_decide_eq_true (Bool.and_eq_true_iff.mp h).2 i hi
  unfold renOK at h2
  rw [hv, Bool.and_true] at h2
  by_cases z : isV (zs.getD i (-1)) = true
  · exact z
  · rw [if_neg z] at h2
    rw [of_decide_eq_true h2]
    exact hv
theorem renI_len {zs ws : List Int32} (h : renI zs ws = true) : zs.length = ws.length := by
  unfold renI at h
  exact of_decide_eq_true (Bool.and_eq_true_iff.mp h).1
theorem mem_fidx {s : Int32} : ∀ {zs : List Int32}, s ∈ zs → fidx s zs < zs.length
  | [], h => by cases h
  | x :: l, h => by
    unfold fidx
    split
    · simp
    · next z =>
      have : s ∈ l := by
        rcases List.mem_cons.mp h with y | y
        · exact absurd y.symm z
        · exact y
      have := mem_fidx this
      rw [List.length_cons]
      omega
theorem flat_cg {α : Type} {l : List α} {f g : α → List Int32} (h : ∀ s ∈ l, f s = g s) : l.flatMap f = l.flatMap g := by
  induction l with
  | nil => rfl
  | cons x l ih => rw [List.flatMap_cons, List.flatMap_cons, h x (by simp), ih (fun s hs => h s (by simp [hs]))]
theorem neg_nI {k : Nat} (h : 0 < k) (hk : k < 2000000) : -(nI k) < 0 := by
  rw [Int32.lt_iff_toInt_lt]
  have : (-(nI k)).toInt = -(k : Int) := by
    rw [Int32.toInt_neg, nI_toInt (by omega)]
    rw [Int.bmod_eq_of_le (by omega) (by omega)]
  rw [this]
  have : (0 : Int32).toInt = 0 := by decide
  omega
theorem fold_var {pt : Nat → Int32} {T : TS} {n u : Nat} (hW : WF pt T none) (hn : n < tN T) (hu : u < tN T) (hr : renI (tmn T n) (tmn T u) = true) {s : Int32} (hs : s ∈ pF T u) : ∃ j, j < 100 ∧ mpI (tmn T u) (tmn T n) (tmn T u).length s.toNatClampNeg = nI j ∧ nI j ∈ tmn T n := by
  obtain ⟨v, hv, ev, hm⟩ := pF_mem hW hu hs
  subst ev
  rw [nI_clamp (by omega)]
  unfold mpI
  have hf := mem_fidx hm
  rw [if_pos hf]
  have hl := renI_len hr
  have hfn : fidx (nI v) (tmn T u) < (tmn T n).length := by omega
  have hvv := ren_v hr hfn (by rw [fidx_lt hf, isV_n (by omega)]; exact decide_eq_true hv)
  obtain ⟨j, hj, ej, _⟩ := (hW.al hn).getD hfn
  rw [ej, isV_n (by omega)] at hvv
  exact ⟨j, of_decide_eq_true hvv, ej, by rw [← ej]; exact getD_mem hfn⟩
/-- the table of the residual program beside the source's -/
def ptR (pt pt' : Nat → Int32) (T : TS) : Prop := ∀ i, pt' i = if 300 ≤ i ∧ i < 300 + tN T ∧ fnT T (i - 300) = true then nI (pF T (i - 300)).length else pt i
theorem ptR.lo {pt pt' : Nat → Int32} {T : TS} (h : ptR pt pt' T) {k : Nat} (hk : k < 300) : nP (sgP pt') (nI k) = nP (sgP pt) (nI k) := by
  unfold nP
  rw [sgP_n (by omega), sgP_n (by omega), h k, if_neg (fun z => by omega)]
theorem ptR.fn {pt0 pt pt' : Nat → Int32} {T : TS} (h : ptR pt pt' T) (hW : WF pt0 T none) {m : Nat} (hm : m < tN T) (hf : fnT T m = true) : nP (sgP pt') (nI (300 + m)) = (pF T m).length := by
  have h48 := hW.1.1
  have := (pF_len hW hm).1
  have e : 300 + m - 300 = m := by omega
  unfold nP
  rw [sgP_n (by omega), h (300 + m), if_pos ⟨by omega, by omega, by rw [e]; exact hf⟩, e, nI_clamp (by omega)]
theorem rA.sub {T : TS} {n k : Nat} {l : List Int32} (h : al (rA T k) l) (hv : ∀ s ∈ tmn T k, isV s = true → s ∈ tmn T n) : al (rA T n) l := h.mono (fun j hj z => by
  rcases z with z | z
  · exact Or.inl ⟨z.1, hv _ z.2 (by rw [isV_n (by omega)]; exact decide_eq_true z.1)⟩
  · exact Or.inr z)
theorem tmq_own {pt0 pt pt' : Nat → Int32} {cs : Nat → Bool} {T : TS} {n : Nat} (hS : SW pt cs) (hP : ptR pt pt' T) (hW : WF pt0 T none) (hn : n < tN T) (hf : fnT T n = true) : tmq (nP (sgP pt')) (rA T n) (nI (300 + n) :: pF T n) := by
  have h48 := hW.1.1
  refine ⟨?_, fun s hs => ?_⟩
  · show full _ (0 + nP (sgP pt') (nI (300 + n))) (pF T n) = true
    rw [hP.fn hW hn hf, Nat.zero_add]
    refine full_vars (fun s hs => ?_)
    obtain ⟨k, hk, e, _⟩ := pF_mem hW hn hs
    rw [e, hP.lo (by omega)]
    exact hS.v hk
  · rcases List.mem_cons.mp hs with z | z
    · exact ⟨300 + n, by omega, z, Or.inr (Or.inr (Or.inl ⟨n, hn, hf, rfl⟩))⟩
    · obtain ⟨k, hk, e, hm⟩ := pF_mem hW hn z
      exact ⟨k, by omega, e, Or.inl ⟨hk, by rw [← e]; exact hm⟩⟩
theorem kd_cases {pt : Nat → Int32} {T : TS} {n : Nat} (hW : WF pt T none) (hn : n < tN T) : kd T n = 0 ∨ kd T n = 1 ∨ kd T n = 2 ∨ kd T n = 3 ∨ kd T n = 4 ∨ kd T n = 5 ∨ kd T n = 6 ∨ kd T n = 7 ∨ kd T n = 8 := by
  obtain ⟨k, hk, ek⟩ := (hW.2.2 n hn).1.2.1
  have ek : kd T n = nI k := ek
  have : k = 0 ∨ k = 1 ∨ k = 2 ∨ k = 3 ∨ k = 4 ∨ k = 5 ∨ k = 6 ∨ k = 7 ∨ k = 8 := by omega
  rcases this with rfl | rfl | rfl | rfl | rfl | rfl | rfl | rfl | rfl
  · exact Or.inl ek
  · exact Or.inr (Or.inl ek)
  · exact Or.inr (Or.inr (Or.inl ek))
  · exact Or.inr (Or.inr (Or.inr (Or.inl ek)))
  · exact Or.inr (Or.inr (Or.inr (Or.inr (Or.inl ek))))
  · exact Or.inr (Or.inr (Or.inr (Or.inr (Or.inr (Or.inl ek)))))
  · exact Or.inr (Or.inr (Or.inr (Or.inr (Or.inr (Or.inr (Or.inl ek))))))
  · exact Or.inr (Or.inr (Or.inr (Or.inr (Or.inr (Or.inr (Or.inr (Or.inl ek)))))))
  · exact Or.inr (Or.inr (Or.inr (Or.inr (Or.inr (Or.inr (Or.inr (Or.inr ek)))))))
theorem wInl_k {T : TS} {n : Nat} : (kd T n = 1 → wInl T n = t40 T n) ∧ (kd T n = 2 → wInl T n = aabL T 48 (lkn T n 4) (nrs (tD T n) ++ [(t40 T n).getD 0 (-1)])) ∧ (kd T n = 3 → wInl T n = aabL T 48 (lkn T n 4) (nrs (tD T n))) ∧ (kd T n = 5 → wInl T n = nrs (tD T n) ++ [400]) ∧ (kd T n = 6 → wInl T n = wfL T n) ∧ (kd T n = 7 → wInl T n = wlL T n) ∧ (kd T n = 0 ∨ kd T n = 8 → wInl T n = nrs (tD T n)) := by
  unfold kd lkn wInl
  refine ⟨fun h => ?_, fun h => ?_, fun h => ?_, fun h => ?_, fun h => ?_, fun h => ?_, fun h => ?_⟩
  · rw [if_pos h]
  · rw [if_neg (by rw [h]; decide), if_pos h]
  · rw [if_neg (by rw [h]; decide), if_neg (by rw [h]; decide), if_pos h]
  · rw [if_neg (by rw [h]; decide), if_neg (by rw [h]; decide), if_neg (by rw [h]; decide), if_pos h]
  · rw [if_neg (by rw [h]; decide), if_neg (by rw [h]; decide), if_neg (by rw [h]; decide), if_neg (by rw [h]; decide), if_pos h]
  · rw [if_neg (by rw [h]; decide), if_neg (by rw [h]; decide), if_neg (by rw [h]; decide), if_neg (by rw [h]; decide), if_neg (by rw [h]; decide), if_pos h]
  · rcases h with h | h <;> rw [if_neg (by rw [h]; decide), if_neg (by rw [h]; decide), if_neg (by rw [h]; decide), if_neg (by rw [h]; decide), if_neg (by rw [h]; decide), if_neg (by rw [h]; decide)]
theorem TE.ch {T T' : TS} (h : TE T T') {n b c : Nat} (hC : Ch T n b c) : Ch T' n b c := ⟨hC.1, by rw [h.1]; exact hC.2.1, by rw [h.lk]; exact hC.2.2.1, by rw [h.lk]; exact hC.2.2.2.1, fun i hi => by rw [h.lk, h.lk]; exact hC.2.2.2.2 i hi⟩
theorem Ch4 {T : TS} {n b c : Nat} (hC : Ch T n b c) : lkn T n 4 = if 0 < c then some (b + 0) else none := by
  rw [hC.2.2.1]
  by_cases z : c = 0
  · rw [if_pos z, if_neg (by omega)]
  · rw [if_neg z, if_pos (by omega)]; rfl
/-- the inline residual is what the reference writes, and a term -/
theorem inl_eq {pt pt' : Nat → Int32} {cs : Nat → Bool} {T T' : TS} {n b c u : Nat} {fv : Int32} (hS : SW pt cs) (hP : ptR pt pt' T) (hW : WF pt T none) (hG : WG T) (hH : HD (sgP pt) T) (hI : IS pt' T T' (n + 1)) (hn : n < tN T) (h0 : kd T n ≠ 0) (h8 : kd T n ≠ 8) (hC : kd T n = 2 ∨ kd T n = 3 ∨ kd T n = 4 ∨ kd T n = 7 → Ch T n b c ∧ EV (sgP pt) T n b c) (hu : kd T n = 6 → lkn T n 9 = some u) (hfv : kd T n = 7 → 1 < c → fv = (tD T n).1 13) :
    nrs (tD (inl1 T' n) n) = wO (fnT T) (pT T) (fun k => nrs (tD T' k)) T n b c u fv ∧ tmq (nP (sgP pt')) (rA T n) (nrs (tD (inl1 T' n) n)) := by
  obtain ⟨hE, hfl, hlo, hhi⟩ := hI
  have h48 := hW.1.1
  have htm := (hW.2.2 n hn).1.1
  have r100e : ∀ k, n < k → k < tN T → r100 T' k = nrs (tD T' k) := fun k h1 h2 => List.take_of_length_le (hhi k (by omega) h2).1
  by_cases hf : fnT T n = true
  · have e1 : inl1 T' n = T' := by
      unfold inl1
      rw [if_neg (by rw [hfl n hn, hf]; decide)]
    have e2 : nrs (tD T' n) = nI (300 + n) :: pF T n := by rw [hlo n (Or.inl (by omega)) hn, if_pos hf]
    rw [e1, e2]
    refine ⟨?_, tmq_own hS hP hW hn hf⟩
    unfold wO pT
    rw [if_pos hf, if_pos hf]
  · have hff : fnT T n = false := Bool.eq_false_iff.mpr hf
    have e1 : nrs (tD (inl1 T' n) n) = wInl T' n := by
      unfold inl1
      rw [if_pos (by rw [hfl n hn, hff]; rfl), tRs_at]
      rfl
    have e2 : nrs (tD T' n) = [] := by rw [hlo n (Or.inl (by omega)) hn, if_neg hf]
    rw [e1]
    have hk := hE.kd n
    obtain ⟨w1, w2, w3, w5, w6, w7, w8⟩ := wInl_k (T := T') (n := n)
    rw [hk] at w1 w2 w3 w5 w6 w7 w8
    have hkid : ∀ i, i < c → Ch T n b c → full (nP (sgP pt')) 1 (nrs (tD T' (b + i))) = true ∧ al (rA T (b + i)) (nrs (tD T' (b + i))) := fun i hi hCh => (hhi (b + i) (by have := hCh.1; omega) (by have := hCh.2.1; omega)).2.2 (hG.ch hCh h0 hi)
    unfold wO
    rw [if_neg hf]
    rcases kd_cases hW hn with k | k | k | k | k | k | k | k | k
    · exact absurd k h0
    · rw [w1 k, if_pos k, hE.t40, hW.t40 hn]
      refine ⟨rfl, ?_⟩
      obtain ⟨hC1, hC2⟩ := (hH n hn).1 k
      have hne := full_ne htm.1
      obtain ⟨j, hj, ej, hg⟩ := htm.2.getD hne
      rw [show (tmn T n).getD 0 (-1) = nI j from ej, isC_n (by omega)] at hC1
      have hj2 : j < 200 := Nat.not_le.mp (of_decide_eq_false hC1)
      generalize hz : tmn T n = zs at *
      have htm1 := htm.1
      unfold tmn at hz
      rw [hz] at htm1 hne ej
      cases zs with
      | nil => cases hne
      | cons x l =>
        have ex : x = nI j := ej
        have hl : full (nP (sgP pt)) (0 + nP (sgP pt) x) l = true := htm1
        have hx0 : nP (sgP pt) x = 0 := hC2
        rw [hx0] at hl
        have hl0 : l = [] := by
          cases l with
          | nil => rfl
          | cons y l => cases hl
        subst hl0
        refine ⟨?_, fun s hs => ?_⟩
        · refine full_one ?_
          rw [ex, hP.lo (by omega), ← ex]
          exact hC2
        · have : s = nI j := by rw [← ex]; simpa using hs
          refine ⟨j, hj, this, ?_⟩
          rcases hg with g | g | g
          · exact Or.inl ⟨g.2, by show nI j ∈ ntm (tD T n); rw [hz, ex]; simp⟩
          · exact Or.inr (Or.inl g)
          · omega
    · obtain ⟨hCh, hEV⟩ := hC (Or.inl k)
      obtain ⟨hc, hvs⟩ := hEV.1 k
      have hC1 := (hH n hn).2 k
      have hne := full_ne htm.1
      obtain ⟨j, hj, ej, hg⟩ := htm.2.getD hne
      have hmem : nI j ∈ tmn T n := by rw [← ej]; exact getD_mem hne
      rw [show (tmn T n).getD 0 (-1) = nI j from ej] at hC1 hc
      rw [isC_n (by omega)] at hC1
      have hj2 : j < 200 := Nat.not_le.mp (of_decide_eq_false hC1)
      rw [w2 k, e2, hE.t40, hW.t40 hn, if_neg (by rw [k]; decide), if_neg (by rw [k]; decide), if_pos k, Ch4 (hE.ch hCh), aabL_ch (hE.ch hCh) c 0 48 _ (by omega) (by have := hCh.2.1; omega), ← List.range_eq_range']
      have er : (List.range c).flatMap (fun i => r100 T' (b + i)) = (List.range c).flatMap (fun i => nrs (tD T' (b + i))) := by
        refine flat_cg (fun i hi => ?_)
        rw [List.mem_range] at hi
        exact r100e _ (by have := hCh.1; omega) (by have := hCh.2.1; omega)
      rw [er]
      refine ⟨rfl, ?_⟩
      show tmq _ _ ((tmn T n).getD 0 (-1) :: _)
      rw [show (tmn T n).getD 0 (-1) = nI j from ej]
      refine ⟨?_, fun s hs => ?_⟩
      · show full _ (0 + nP (sgP pt') (nI j)) _ = true
        rw [hP.lo (by omega), ← hc, Nat.zero_add]
        exact full_rng (fun i hi => (hkid i hi hCh).1)
      · rcases List.mem_cons.mp hs with z | z
        · refine ⟨j, hj, z, ?_⟩
          rcases hg with g | g | g
          · exact Or.inl ⟨g.2, hmem⟩
          · exact Or.inr (Or.inl g)
          · omega
        · obtain ⟨i, hi, hsi⟩ := List.mem_flatMap.mp z
          rw [List.mem_range] at hi
          exact rA.sub (hkid i hi hCh).2 (hvs i hi) s hsi
    · obtain ⟨hCh, hEV⟩ := hC (Or.inr (Or.inl k))
      obtain ⟨hc, hvs⟩ := hEV.2.1 k
      subst hc
      rw [w3 k, e2, if_neg (by rw [k]; decide), if_neg (by rw [k]; decide), if_neg (by rw [k]; decide), if_pos k, Ch4 (hE.ch hCh), aabL_ch (hE.ch hCh) 1 0 48 _ (by omega) (by omega)]
      have er : [] ++ (List.range' 0 1).flatMap (fun i => r100 T' (b + i)) = nrs (tD T' b) := by
        simp
        exact r100e b hCh.1 (by have := hCh.2.1; omega)
      rw [er]
      have := hkid 0 (by omega) hCh
      exact ⟨rfl, this.1, rA.sub this.2 hvs⟩
    · exact absurd ((fnT_iff hW hn).mpr (Or.inl k)) hf
    · rw [w5 k, e2, if_neg (by rw [k]; decide), if_pos k]
      refine ⟨rfl, full_one ?_, fun s hs => ⟨400, by omega, (List.mem_singleton.mp hs).trans rfl, Or.inr (Or.inr (Or.inr rfl))⟩⟩
      show nP (sgP pt') (nI 400) = 0
      unfold nP
      rw [sgP_n (by omega), hP 400, if_neg (fun z => by omega), hS.2.2.2.2.1]
      rfl
    · have h9 := hu k
      obtain ⟨u', q1, q2, q3, q4, q5⟩ := (hW.2.2 n hn).2.1 k
      have : u' = u := Option.some.inj (q1.symm.trans h9)
      subst this
      have hun := isBel_lt hW.1.AW hn q5
      have huN : u' < tN T := by omega
      have hfu : fnT T u' = true := (fnT_iff hW huN).mpr (Or.inr ⟨n, hn, h9⟩)
      have hl9 : (tD T' n).2.1 9 = some u' := (hE.lk n 9).trans h9
      have hpl := (pF_len hW huN).1
      have eru : r100 T' u' = nI (300 + u') :: pF T u' := by
        unfold r100
        rw [hlo u' (Or.inl (by omega)) huN, if_pos hfu, List.take_of_length_le (by rw [List.length_cons]; omega)]
      rw [w6 k, if_neg (by rw [k]; decide), if_neg (by rw [k]; decide), if_neg (by rw [k]; decide), if_neg (by rw [k]; decide), if_pos k]
      have e3 : wfL T' n = nI (300 + u') :: (pF T u').map (fun s => mpI (tmn T u') (tmn T n) (tmn T u').length s.toNatClampNeg) := by
        unfold wfL
        rw [hl9]
        simp only [e2, eru, List.nil_append, List.drop_succ_cons, List.drop_zero]
        rw [show (300 : Int32) + nI u' = nI (300 + u') from nI_add 300 u']
        show nI (300 + u') :: _ = _
        congr 1
        refine List.map_congr_left (fun s hs => ?_)
        obtain ⟨v, hv, ev, _⟩ := pF_mem hW huN hs
        subst ev
        unfold wfM mpI idxI atI
        rw [hE.t40, hE.t40, hW.t40 hn, hW.t40 huN, nI_clamp (by omega)]
        have hl40 : (tmn T u').length ≤ 40 := (hW.1.2.2 u' huN).1
        by_cases hx : fidx (nI v) (tmn T u') < (tmn T u').length
        · rw [if_pos hx, if_pos hx, if_neg (nI_pos (by omega)), nI_clamp (by omega)]
        · rw [if_neg hx, if_neg hx, if_pos (by decide)]
      rw [e3]
      refine ⟨by unfold pT; rw [if_pos hfu], ?_, fun s hs => ?_⟩
      · show full _ (0 + nP (sgP pt') (nI (300 + u'))) _ = true
        rw [hP.fn hW huN hfu, Nat.zero_add, ← List.length_map (f := fun s => mpI (tmn T u') (tmn T n) (tmn T u').length s.toNatClampNeg)]
        refine full_vars (fun s hs => ?_)
        obtain ⟨x, hx, rfl⟩ := List.mem_map.mp hs
        obtain ⟨j, hj, ej⟩ := fold_var hW hn huN q4 hx
        rw [ej.1, hP.lo (by omega)]
        exact hS.v hj
      · rcases List.mem_cons.mp hs with z | z
        · exact ⟨300 + u', by omega, z, Or.inr (Or.inr (Or.inl ⟨u', huN, hfu, rfl⟩))⟩
        · obtain ⟨x, hx, rfl⟩ := List.mem_map.mp z
          obtain ⟨j, hj, ej⟩ := fold_var hW hn huN q4 hx
          exact ⟨j, by omega, ej.1, Or.inl ⟨hj, ej.2⟩⟩
    · obtain ⟨hCh, hEV⟩ := hC (Or.inr (Or.inr (Or.inr k)))
      obtain ⟨q, w, hq, hc, h13, hwq, hvb, hvs⟩ := hEV.2.2.2 k
      have hc48 : c ≤ 48 := by have := hCh.2.1; omega
      have hkb := hkid 0 (by omega) hCh
      rw [w7 k, if_neg (by rw [k]; decide), if_neg (by rw [k]; decide), if_neg (by rw [k]; decide), if_neg (by rw [k]; decide), if_neg (by rw [k]; decide)]
      have hl4 : (tD T' n).2.1 4 = some b := by
        have := Ch4 (hE.ch hCh)
        rw [if_pos (by omega)] at this
        exact this
      have hl6 : (tD T' b).2.1 6 = if 1 < c then some (b + 1) else none := by
        have := ((hE.ch hCh).2.2.2.2 0 (by omega)).2
        exact this
      have eF : ∀ s ∈ nrs (tD T' b), letE T' 48 ((tD T' b).2.1 6) ((tD T' n).1 13) (fun s => [s]) s = lE fv (dt T n) (fun k => nrs (tD T' k)) b s ∧ ∃ j, j ≤ 400 ∧ s = nI j ∧ rA T b j ∧ lE fv (dt T n) (fun k => nrs (tD T' k)) b s = if w ≤ j ∧ j < w + q ∧ j < 100 then nrs (tD T' (b + 1 + (j - w))) else [s] := by
        intro s hs
        obtain ⟨j, hj, ej, hrj⟩ := hkb.2 s hs
        subst ej
        by_cases hq0 : q = 0
        · have e0 : lE fv (dt T n) (fun k => nrs (tD T' k)) b (nI j) = [nI j] := by
            unfold lE
            rw [if_neg]
            rintro ⟨-, z2, z3⟩
            rw [hq, hq0] at z3
            exact absurd z3 (Int32.not_lt.mpr z2)
          rw [hl6, if_neg (by omega), letE_none, e0]
          exact ⟨rfl, j, hj, rfl, hrj, by rw [if_neg (by omega)]⟩
        · have e13 : (tD T' n).1 13 = nI w := ((hE.2.2.2 n).1 13 (by decide)).trans (h13 (by omega))
          have efv : fv = nI w := (hfv k (by omega)).trans (h13 (by omega))
          have e0 : lE fv (dt T n) (fun k => nrs (tD T' k)) b (nI j) = if w ≤ j ∧ j < w + q ∧ j < 100 then nrs (tD T' (b + 1 + (j - w))) else [nI j] := by
            unfold lE
            rw [efv, hq]
            by_cases hr : w ≤ j ∧ j < w + q ∧ j < 100
            · rw [nI_subn hr.1, if_pos hr, if_pos ⟨nI_lt (b := 100) hr.2.2 (by omega), Int32.not_lt.mp (nI_pos (by omega)), nI_lt (by omega) (by omega)⟩, nI_clamp (by omega)]
            · rw [if_neg hr, if_neg]
              rintro ⟨z1, z2, z3⟩
              have y1 : j < 100 := (nI_ltI (by omega) (by decide)).mp (show nI j < nI 100 from z1)
              by_cases y2 : w ≤ j
              · rw [nI_subn y2] at z3
                have := (nI_ltI (by omega) (by omega)).mp z3
                exact hr ⟨y2, by omega, y1⟩
              · have y3 : nI j - nI w < 0 := by
                  have e1 : nI w - nI j = nI (w - j) := nI_subn (by omega)
                  have e2 : nI j - nI w = -(nI (w - j)) := by rw [← e1, Int32.neg_sub]
                  rw [e2]
                  exact neg_nI (by omega) (by omega)
                exact absurd z2 (Int32.not_le.mpr y3)
          refine ⟨?_, j, hj, rfl, hrj, e0⟩
          rw [hl6, e13, letE_ch (hE.ch hCh) hj (c - 1) 1 48 w _ (by omega) (by omega) (by omega), e0]
          by_cases hr : w ≤ j ∧ j < w + q ∧ j < 100
          · rw [if_pos hr, if_pos ⟨hr.1, by omega, hr.2.2⟩]
            exact r100e _ (by have := hCh.1; omega) (by have := hCh.2.1; omega)
          · rw [if_neg hr, if_neg (fun z => hr ⟨z.1, by omega, z.2.2⟩)]
      have e3 : wlL T' n = (nrs (tD T' b)).flatMap (lE fv (dt T n) (fun k => nrs (tD T' k)) b) := by
        unfold wlL
        rw [hl4]
        simp only [e2, List.nil_append]
        rw [r100e b hCh.1 (by have := hCh.2.1; omega)]
        exact flat_cg (fun s hs => (eF s hs).1)
      rw [e3]
      have hkj : ∀ j, w ≤ j → j < w + q → full (nP (sgP pt')) 1 (nrs (tD T' (b + 1 + (j - w)))) = true ∧ al (rA T n) (nrs (tD T' (b + 1 + (j - w)))) := fun j h1 h2 => by
        have e : b + 1 + (j - w) = b + (1 + (j - w)) := by omega
        rw [e]
        have := hkid (1 + (j - w)) (by omega) hCh
        exact ⟨this.1, rA.sub this.2 (hvs (1 + (j - w)) (by omega) (by omega))⟩
      refine ⟨rfl, full_flat (fun s hs => ?_) hkb.1, fun s hs => ?_⟩
      · obtain ⟨-, j, hj, ej, hrj, e⟩ := eF s hs
        by_cases hr : w ≤ j ∧ j < w + q ∧ j < 100
        · left
          rw [e, if_pos hr]
          refine ⟨?_, (hkj j hr.1 hr.2.1).1⟩
          rw [ej, hP.lo (by omega)]
          exact hS.v hr.2.2
        · right
          rw [e, if_neg hr]
      · obtain ⟨x, hx, hsx⟩ := List.mem_flatMap.mp hs
        obtain ⟨-, j, hj, ej, hrj, e⟩ := eF x hx
        rw [e] at hsx
        by_cases hr : w ≤ j ∧ j < w + q ∧ j < 100
        · rw [if_pos hr] at hsx
          exact (hkj j hr.1 hr.2.1).2 s hsx
        · rw [if_neg hr] at hsx
          have es : s = nI j := by rw [← ej]; simpa using hsx
          refine ⟨j, hj, es, ?_⟩
          rcases hrj with g | g
          · rcases hvb _ g.2 (by rw [isV_n (by omega)]; exact decide_eq_true g.1) with y | ⟨i, hi, y⟩
            · exact Or.inl ⟨g.1, y⟩
            · have := nI_inj y (by omega) (by omega)
              exact absurd ⟨by omega, by omega, g.1⟩ hr
          · exact Or.inr g
    · exact absurd k h8
theorem IS_step {pt pt' : Nat → Int32} {cs : Nat → Bool} {T T' : TS} {n : Nat} (hS : SW pt cs) (hP : ptR pt pt' T) (hW : WF pt T none) (hG : WG T) (hH : HD (sgP pt) T) (h8 : ∀ m, m < tN T → kd T m ≠ 8) (hI : IS pt' T T' (n + 1)) (hn : n < tN T) (hl : ¬ 100 < (nrs (tD (inl1 T' n) n)).length) : IS pt' T (inl1 T' n) n := by
  have hI0 := hI
  obtain ⟨hE, hfl, hlo, hhi⟩ := hI
  have hx : inl1 T' n = T' ∨ inl1 T' n = tRs T' n (wInl T' n) := by unfold inl1; split; exact Or.inr rfl; exact Or.inl rfl
  have hd : ∀ k, k ≠ n → tD (inl1 T' n) k = tD T' k := fun k hk => by
    rcases hx with e | e <;> rw [e]
    exact tRs_ne hk
  have hE2 : TE T (inl1 T' n) := by
    rcases hx with e | e <;> rw [e]
    · exact hE
    · exact hE.tr TE.rs
  refine ⟨hE2, fun k hk => ?_, fun k hk1 hk2 => ?_, fun k hk1 hk2 => ?_⟩
  · have : (tD (inl1 T' n) k).1 10 = (tD T' k).1 10 := by
      rcases hx with e | e <;> rw [e]
      rw [tRs_lk.2.1]
    rw [this]
    exact hfl k hk
  · by_cases e : k = n
    · subst e
      rcases hk1 with z | z
      · omega
      · have e1 : inl1 T' k = T' := by
          unfold inl1
          rw [if_neg (by rw [hfl k hn, z]; decide)]
        rw [e1]
        exact hlo k (Or.inr z) hn
    · rw [hd k e]
      exact hlo k (by rcases hk1 with z | z; exact Or.inl (by omega); exact Or.inr z) hk2
  · by_cases e : k = n
    · subst e
      refine ⟨by omega, fun h0 => ?_, fun h0 => ?_⟩
      · have hf : fnT T k = false := by
          refine Bool.eq_false_iff.mpr fun z => ?_
          rcases fnT_34 hW hn z with y | y <;> (rw [h0] at y; exact absurd y (by decide))
        unfold inl1
        rw [if_pos (by rw [hfl k hn, hf]; rfl), tRs_at]
        show wInl T' k = []
        rw [(wInl_k (T := T') (n := k)).2.2.2.2.2.2 (Or.inl ((hE.kd k).trans h0)), hlo k (Or.inl (by omega)) hn, if_neg (by rw [hf]; decide)]
      · by_cases hc : kd T k = 2 ∨ kd T k = 3 ∨ kd T k = 4 ∨ kd T k = 7
        · obtain ⟨b, c, h1, h2⟩ := (hW.2.2 k hn).2.2 (fun z => by cases z) hc
          exact (inl_eq (u := 0) (fv := (tD T k).1 13) hS hP hW hG hH hI0 hn h0 (h8 k hn) (fun _ => ⟨h1, h2⟩) (fun z => by rcases hc with y | y | y | y <;> (rw [y] at z; exact absurd z (by decide))) (fun _ _ => rfl)).2
        · by_cases h6 : kd T k = 6
          · obtain ⟨u, q1, _⟩ := (hW.2.2 k hn).2.1 h6
            exact (inl_eq (b := 0) (c := 0) (u := u) (fv := 0) hS hP hW hG hH hI0 hn h0 (h8 k hn) (fun z => absurd z hc) (fun _ => q1) (fun z => by rw [h6] at z; exact absurd z (by decide))).2
          · exact (inl_eq (b := 0) (c := 0) (u := 0) (fv := 0) hS hP hW hG hH hI0 hn h0 (h8 k hn) (fun z => absurd z hc) (fun z => absurd z h6) (fun z => absurd (Or.inr (Or.inr (Or.inr z))) hc)).2
    · rw [hd k e]
      exact hhi k (by omega) hk2
theorem IS_0 {pt : Nat → Int32} {cs : Nat → Bool} {T : TS} (hW : WF pt T none) : IS (oT T pt cs).2.1 T (oT T pt cs).1 (tN T) ∧ ptR pt (oT T pt cs).2.1 T := by
  obtain ⟨h1, h2⟩ := oT_tree (pt := pt) (cs := cs) hW
  exact ⟨⟨h1, fun k hk => (h2 k hk).1, fun k _ hk => (h2 k hk).2, fun k hk hk2 => by omega⟩, fun i => (oT_sg hW i).1⟩
