/-! pure: becoming, new variables, removing -/
theorem WF.hole {pt : Nat → Int32} {T : TS} {h : Option Nat} (hW : WF pt T none) : WF pt T h := ⟨hW.1, hW.2.1, fun k hk => ⟨(hW.2.2 k hk).1, (hW.2.2 k hk).2.1, fun _ => (hW.2.2 k hk).2.2 (fun z => by cases z)⟩⟩
theorem WF.close {pt : Nat → Int32} {T : TS} {n : Nat} (hW : WF pt T (some n)) (hC : CH (sgP pt) T n) : WF pt T none := ⟨hW.1, hW.2.1, fun k hk => ⟨(hW.2.2 k hk).1, (hW.2.2 k hk).2.1, fun _ => by
  by_cases e : k = n
  · rw [e]; exact hC
  · exact (hW.2.2 k hk).2.2 (fun z => e (Option.some.inj z).symm)⟩⟩
theorem WF.set {pt : Nat → Int32} {T : TS} {n : Nat} {x : ND} (hW : WF pt T (some n)) (hn : n < tN T) (hx : ndW pt (tV T) x) (hl : ndL (tN T) n x) (ht : ntm x = tmn T n) (h3 : x.2.1 3 = lkn T n 3) (h6 : x.2.1 6 = lkn T n 6) (h11 : x.1 11 = (tD T n).1 11) (h12 : x.1 12 = (tD T n).1 12) (hF : FO (tUp T n x) n) (hU : ∀ m, m < tN T → m ≠ n → kd T m = 6 → lkn T m 9 ≠ some n) : WF pt (tUp T n x) (some n) := by
  have e3 : ∀ k, lkn (tUp T n x) k 3 = lkn T k 3 := fun k => by
    unfold lkn
    by_cases z : k = n
    · subst z; rw [tD_up]; exact h3
    · rw [tD_ne z]
  have et : ∀ k, tmn (tUp T n x) k = tmn T k := fun k => by
    by_cases z : k = n
    · subst z; unfold tmn at ht ⊢; rw [tD_up]; exact ht
    · unfold tmn; rw [tD_ne z]
  refine ⟨hW.1.up hl, hW.2.1, fun k hk => ?_⟩
  have hk' : k < tN T := hk
  show ndW pt (tV T) _ ∧ _
  obtain ⟨w1, w2, w3⟩ := hW.2.2 k hk'
  by_cases e : k = n
  · subst e
    exact ⟨by rw [tD_up]; exact hx, hF, fun z => absurd rfl z⟩
  · refine ⟨by rw [tD_ne e]; exact w1, ?_, fun z => ?_⟩
    · refine fun he => ?_
      have he' : kd T k = 6 := by unfold kd at he ⊢; rw [tD_ne e] at he; exact he
      have hnu := hU k hk' e he'
      obtain ⟨u, g1, g2, g3, g4, g5⟩ := w2 he'
      have hu : u ≠ n := fun z => hnu (by rw [g1, z])
      refine ⟨u, by unfold lkn at g1 ⊢; rw [tD_ne e]; exact g1, by unfold dt at g2 ⊢; rw [tD_ne e]; exact g2, by unfold kd at g3 ⊢; rw [tD_ne hu]; exact g3, by rw [et, et]; exact g4, ?_⟩
      rw [isBel_cg (N := tN T) (fun j _ => e3 j) (fun j hj m em => hW.1.AW j hj m em) hk']
      exact g5
    · refine (w3 z).tr hk' ?_ ?_ (by rw [tD_ne e]) ?_ ?_ (fun j _ => et j) (fun j hj hj3 => ⟨e3 j, ?_⟩) (Nat.le_refl _)
      · unfold kd; rw [tD_ne e]
      · unfold dt; rw [tD_ne e]
      · unfold lkn; rw [tD_ne e]
      · unfold lkn; rw [tD_ne e]
      · unfold lkn
        by_cases y : j = n
        · subst y; rw [tD_up]; exact ⟨h6, h11, h12⟩
        · rw [tD_ne y]; exact ⟨rfl, rfl, rfl⟩
theorem WF.noU {pt : Nat → Int32} {T : TS} {n : Nat} (hW : WF pt T none) (h8 : kd T n = 8) : ∀ m, m < tN T → m ≠ n → kd T m = 6 → lkn T m 9 ≠ some n := by
  intro m hm _ h6 e
  obtain ⟨u, g1, _, g3, _⟩ := (hW.2.2 m hm).2.1 h6
  rw [e] at g1
  cases g1
  rw [h8] at g3
  rcases g3 with g3 | g3 <;> exact absurd g3 (by decide)
theorem ndW_bec {pt : Nat → Int32} {V : Nat} {x : ND} {k v : Int32} (h : ndW pt V x) (hk : ∃ j, j ≤ 7 ∧ k = nI j) (hC : k = 3 ∨ k = 4 → isC ((ntm x).getD 0 (-1)) = true) (h4 : k = 4 → ∃ w, w < 100 ∧ v = nI w ∧ nI w ∈ ntm x) (h2 : k = 2 → v = (ntm x).getD 0 (-1) - 100) (h0 : k = 0 ∨ k = 1 ∨ k = 3 ∨ k = 5 ∨ k = 8 → v = -1) : ndW pt V (nBecome x k v) := by
  obtain ⟨x1, x2, x3, x4, x5, x6, x7, x8, x9, x10⟩ := h
  obtain ⟨j, hj, rfl⟩ := hk
  refine ⟨x1, ⟨j, by omega, rfl⟩, rfl, x4, fun z => ?_, fun _ => rfl, hC, h4, h2, h0⟩
  have z' : nI j = nI 8 := z
  rw [nI_eq (by omega) (by omega)] at z'
  omega
theorem WF.new {pt : Nat → Int32} {T : TS} {h : Option Nat} (hW : WF pt T h) (hg : tG (tNew T).1 = false) : WF pt (tNew T).1 h ∧ tV (tNew T).1 = tV T + 1 ∧ tV T < 100 ∧ (tNew T).2 = nI (tV T) := by
  unfold tNew at hg ⊢
  by_cases z : tV T < 100
  · rw [if_pos z] at hg ⊢
    refine ⟨⟨⟨hW.1.1, z, hW.1.2.2⟩, hW.2.1, fun k hk => ?_⟩, rfl, z, rfl⟩
    obtain ⟨w1, w2, w3⟩ := hW.2.2 k hk
    exact ⟨w1.mono (Nat.le_succ _), w2.tr hW.1.AW hk rfl rfl rfl (fun _ _ => rfl) (fun _ _ => rfl) (fun _ _ _ z => z), fun hh => (w3 hh).tr hk rfl rfl rfl rfl rfl (fun _ _ => rfl) (fun _ _ _ => ⟨rfl, rfl, rfl, rfl⟩) (Nat.le_refl _)⟩
  · rw [if_neg z] at hg; cases hg
theorem tRm1_d {T : TS} {top n k : Nat} : tD (tRm1 T top n) k = if k = n ∧ isBel T n top = true then nBecome (tD T k) 0 (-1) else tD T k := by
  unfold tRm1
  by_cases h : isBel T n top = true
  · rw [if_pos h]
    by_cases e : k = n
    · subst e; rw [tD_up, if_pos ⟨rfl, h⟩]
    · rw [tD_ne e, if_neg (fun z => e z.1)]
  · rw [if_neg h, if_neg (fun z => h z.2)]
theorem tRm1_bel {T : TS} {top n k u : Nat} (hA : AW T) (hk : k < tN T) : isBel (tRm1 T top n) k u = isBel T k u := by
  refine isBel_cg (N := tN T) (fun j _ => ?_) (fun j hj m e => hA j hj m e) hk
  unfold lkn
  rw [tRm1_d]
  split
  · rfl
  · rfl
theorem tRmL_d {top : Nat} : ∀ {f n : Nat} {T : TS} {k : Nat}, AW T → k < tN T → n + f ≤ tN T → tD (tRmL top f n T) k = if n ≤ k ∧ k < n + f ∧ isBel T k top = true then nBecome (tD T k) 0 (-1) else tD T k
  | 0, n, T, k, hA, hk, hn => by rw [if_neg (by omega)]; rfl
  | f + 1, n, T, k, hA, hk, hn => by
    show tD (tRmL top f (n + 1) (tRm1 T top n)) k = _
    rw [tRmL_d (f := f) (n := n + 1) hA.rm1 (by rw [tRm1_N]; exact hk) (by rw [tRm1_N]; omega), tRm1_bel hA hk, tRm1_d]
    by_cases hb : isBel T k top = true
    · by_cases e : k = n
      · subst e
        rw [if_neg (by omega), if_pos ⟨rfl, hb⟩, if_pos ⟨Nat.le_refl _, by omega, hb⟩]
      · by_cases y : n ≤ k ∧ k < n + (f + 1)
        · rw [if_pos ⟨by omega, by omega, hb⟩, if_neg (fun z => e z.1), if_pos ⟨y.1, y.2, hb⟩]
        · rw [if_neg (by omega), if_neg (fun z => e z.1), if_neg (fun z => y ⟨z.1, z.2.1⟩)]
    · rw [if_neg (fun z => hb z.2.2), if_neg (fun z => hb (by rw [z.1]; exact z.2)), if_neg (fun z => hb z.2.2)]
theorem tRm_d {T : TS} {top k : Nat} (hA : AW T) (ht : top < tN T) (hk : k < tN T) : tD (tRm T top) k = if k = top then nDrop (tD T top) else if isBel T k top = true then nBecome (tD T k) 0 (-1) else tD T k := by
  have hnb : isBel T top top ≠ true := fun z => by have := isBel_lt hA ht z; omega
  have e := fun j (hj : j < tN T) => tRmL_d (top := top) (f := tN T - (top + 1)) (n := top + 1) (T := T) (k := j) hA hj (by omega)
  unfold tRm
  by_cases z : k = top
  · subst z
    rw [tD_up, if_pos rfl, e k hk, if_neg (by omega)]
  · rw [tD_ne z, if_neg z, e k hk]
    by_cases hb : isBel T k top = true
    · have := isBel_lt hA hk hb
      rw [if_pos ⟨by omega, by omega, hb⟩, if_pos hb]
    · rw [if_neg (fun y => hb y.2.2), if_neg hb]
/-- what is below a node goes -/
theorem WF.rm {pt : Nat → Int32} {T : TS} {a : Nat} (hW : WF pt T none) (ha : a < tN T) (h34 : kd T a = 3 ∨ kd T a = 4) : WF pt (tRm T a) (some a) ∧ tN (tRm T a) = tN T ∧ tV (tRm T a) = tV T ∧ Ch (tRm T a) a (tN T) 0 ∧ kd (tRm T a) a = kd T a ∧ dt (tRm T a) a = dt T a ∧ (∀ k, tmn (tRm T a) k = tmn T k) ∧ (∀ m, m < tN T → m ≠ a → kd (tRm T a) m = 6 → lkn (tRm T a) m 9 ≠ some a) ∧ (∀ m, m < tN T → kd (tRm T a) m = 8 → kd T m = 8) := by
  have hA := hW.1.AW
  have hd := fun k (hk : k < tN T) => tRm_d (T := T) (top := a) (k := k) hA ha hk
  have hN : tN (tRm T a) = tN T := (tRm_o (q := 0)).2
  have hV : tV (tRm T a) = tV T := by
    have : ∀ f n (T : TS), tV (tRmL a f n T) = tV T := fun f => by
      induction f with
      | zero => intro n T; rfl
      | succ f ih => intro n T; show tV (tRmL a f (n + 1) (tRm1 T a n)) = _; rw [ih]; unfold tRm1; split <;> rfl
    exact this _ _ _
  have hG : tG (tRm T a) = tG T := by
    have : ∀ f n (T : TS), tG (tRmL a f n T) = tG T := fun f => by
      induction f with
      | zero => intro n T; rfl
      | succ f ih => intro n T; show tG (tRmL a f (n + 1) (tRm1 T a n)) = _; rw [ih]; unfold tRm1; split <;> rfl
    exact this _ _ _
  have ht : ∀ k, tmn (tRm T a) k = tmn T k := fun k => (tRm_o (q := k)).1
  have h3 : ∀ k, k < tN T → lkn (tRm T a) k 3 = lkn T k 3 := fun k hk => by
    unfold lkn
    rw [hd k hk]
    split
    · next z => subst z; rfl
    · split <;> rfl
  have ha' := hd a ha
  rw [if_pos rfl] at ha'
  have hbel : ∀ k u, k < tN T → isBel (tRm T a) k u = isBel T k u := fun k u hk => isBel_cg (N := tN T) h3 (fun j hj m e => hA j hj m e) hk
  have hFO : ∀ k, k < tN T → FO (tRm T a) k ∧ (k ≠ a → kd (tRm T a) k = 6 → lkn (tRm T a) k 9 ≠ some a) := fun k hk => by
    have hw := hW.2.2 k hk
    by_cases e : k = a
    · subst e
      refine ⟨fun z => ?_, fun z => absurd rfl z⟩
      have : kd (tRm T k) k = kd T k := by unfold kd; rw [ha']; rfl
      rw [this] at z
      rcases h34 with h34 | h34 <;> (rw [h34] at z; exact absurd z (by decide))
    · by_cases hb : isBel T k a = true
      · have hk0 : kd (tRm T a) k = 0 := by unfold kd; rw [hd k hk, if_neg e, if_pos hb]; rfl
        refine ⟨fun z => ?_, fun _ z => ?_⟩ <;> (rw [hk0] at z; exact absurd z (by decide))
      · have hs : tD (tRm T a) k = tD T k := by rw [hd k hk, if_neg e, if_neg hb]
        have hsk : kd (tRm T a) k = kd T k := by unfold kd; rw [hs]
        have hu : ∀ u, u < k → isBel T k u = true → u ≠ a ∧ isBel T u a ≠ true := fun u hu h1 => ⟨fun z => hb (z ▸ h1), fun z => hb (isBel_tr hA hk h1 z)⟩
        refine ⟨hw.2.1.tr hA hk hsk (by unfold dt; rw [hs]) (by unfold lkn; rw [hs]) (fun j _ => ht j) h3 (fun u hul h1 h2 => ?_), fun _ z => ?_⟩
        · obtain ⟨q1, q2⟩ := hu u hul h1
          unfold kd at h2 ⊢
          rw [hd u (by omega), if_neg q1, if_neg q2]
          exact h2
        · rw [hsk] at z
          obtain ⟨u, g1, _, _, _, g5⟩ := hw.2.1 z
          have := isBel_lt hA hk g5
          have := (hu u this g5).1
          unfold lkn at g1 ⊢
          rw [hs, g1]
          exact fun y => this (Option.some.inj y)
  refine ⟨⟨hW.1.rm ha, by rw [hG]; exact hW.2.1, fun k hk => ?_⟩, hN, hV, ⟨ha, by rw [hN]; omega, ?_, ?_, fun i hi => absurd hi (Nat.not_lt_zero _)⟩, by unfold kd; rw [ha']; rfl, by unfold dt; rw [ha']; rfl, ht, fun m hm h1 h2 => (hFO m hm).2 h1 h2, fun m hm h8 => ?_⟩
  · rw [hN] at hk
    rw [hV]
    have hw := hW.2.2 k hk
    refine ⟨?_, (hFO k hk).1, fun hh => ?_⟩
    · rw [hd k hk]
      split
      · next e =>
        subst e
        obtain ⟨x1, x2, x3, x4, x5, x6, x7, x8, x9, x10⟩ := hw.1
        exact ⟨x1, x2, x3, x4, fun _ => ⟨rfl, rfl⟩, x6, x7, x8, x9, x10⟩
      · split
        · exact ndW_bec hw.1 ⟨0, by omega, rfl⟩ (fun z => by rcases z with z | z <;> exact absurd z (by decide)) (fun z => absurd z (by decide)) (fun z => absurd z (by decide)) (fun _ => rfl)
        · exact hw.1
    · have e : k ≠ a := fun z => hh (by rw [z])
      by_cases hb : isBel T k a = true
      · have hk0 : kd (tRm T a) k = 0 := by unfold kd; rw [hd k hk, if_neg e, if_pos hb]; rfl
        intro z
        rw [hk0] at z
        exact absurd z (by decide)
      · have hs : tD (tRm T a) k = tD T k := by rw [hd k hk, if_neg e, if_neg hb]
        refine (hw.2.2 (fun z => by cases z)).tr hk (by unfold kd; rw [hs]) (by unfold dt; rw [hs]) (by rw [hs]) (by unfold lkn; rw [hs]) (by unfold lkn; rw [hs]) (fun j _ => ht j) (fun j hj hj3 => ⟨h3 j hj, ?_⟩) (by rw [hN]; exact Nat.le_refl _)
        unfold lkn
        rw [hd j hj]
        split
        · next y => subst y; exact ⟨rfl, rfl, rfl⟩
        · split
          · exact ⟨rfl, rfl, rfl⟩
          · exact ⟨rfl, rfl, rfl⟩
  · unfold lkn; rw [ha']; rfl
  · unfold lkn; rw [ha']; rfl
  · unfold kd at h8 ⊢
    rw [hd m hm] at h8
    by_cases z : m = a
    · rw [if_pos z] at h8
      rw [z]
      exact h8
    · rw [if_neg z] at h8
      by_cases y : isBel T m a = true
      · rw [if_pos y] at h8
        exact absurd (show (0 : Int32) = 8 from h8) (by decide)
      · rw [if_neg y] at h8
        exact h8
