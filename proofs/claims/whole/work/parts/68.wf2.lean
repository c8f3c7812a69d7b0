/-! pure: a node is added, a node becomes another -/
theorem tAdd_ok {T : TS} {ab : Option Nat} {l : List Int32} {tl : Bool} (h : tG (tAdd T ab l tl).1 = false) : tN T < 48 ∧ l.length ≤ 40 ∧ tl = false ∧ tG T = false ∧ tAdd T ab l tl = (tLnk (tOpen T ab l) ab (tN T), some (tN T)) := by
  unfold tAdd at h ⊢
  split at h
  · cases h
  · next z =>
    refine ⟨by omega, by omega, by simpa using fun y => z (Or.inr (Or.inr y)), ?_, by rw [if_neg z]⟩
    cases ab with
    | none => exact h
    | some p => exact ((tPut_o (k := 0)).2.2.2.2.2 ▸ h : tG (tOpen T (some p) l) = false)
theorem tOpen_eq {T : TS} {ab : Option Nat} {l : List Int32} : tD (tOpen T ab l) (tN T) = nOpen (tD T (tN T)) ab l := by
  show upN _ _ _ _ = _
  simp [upN, tN, tD]
theorem tPut_lk {T : TS} {p n k : Nat} (hq : ∀ q, lkn T p 5 = some q → q ≠ p) :
    lkn (tPut T p n) k 4 = (if k = p ∧ lkn T p 5 = none then some n else lkn T k 4) ∧ lkn (tPut T p n) k 5 = (if k = p then some n else lkn T k 5) ∧ lkn (tPut T p n) k 6 = (if lkn T p 5 = some k then some n else lkn T k 6) := by
  unfold tPut lkn
  unfold lkn at hq
  rcases h : (tD T p).2.1 5 with _ | q
  · simp only [h]
    by_cases e : k = p
    · subst e
      rw [tD_up]
      simp [xr, upN]
    · rw [tD_ne e]
      simp [e]
  · simp only [h]
    have hqp := hq q h
    by_cases e : k = p
    · subst e
      rw [tD_up, tD_ne (fun z => hqp z.symm)]
      simp [xr, upN]
      intro z
      exact absurd z hqp
    · rw [tD_ne e]
      by_cases e2 : k = q
      · subst e2
        rw [tD_up]
        simp [xr, upN, e]
      · rw [tD_ne e2]
        simp [e]
        intro z
        exact absurd z.symm e2
/-- all that a good add does -/
theorem tAdd_all {T : TS} {n : Nat} {l : List Int32} {tl : Bool} (hW : WL T) (hn : n < tN T) (h : tG (tAdd T (some n) l tl).1 = false) :
    tN (tAdd T (some n) l tl).1 = tN T + 1 ∧ tV (tAdd T (some n) l tl).1 = tV T ∧ tG T = false ∧ l.length ≤ 40 ∧ (tAdd T (some n) l tl).2 = some (tN T) ∧
    tD (tAdd T (some n) l tl).1 (tN T) = nOpen (tD T (tN T)) (some n) l ∧
    (∀ k, k < tN T → (tD (tAdd T (some n) l tl).1 k).1 = (tD T k).1 ∧ (tD (tAdd T (some n) l tl).1 k).2.2 = (tD T k).2.2 ∧ (∀ j, j ≠ 4 → j ≠ 5 → j ≠ 6 → lkn (tAdd T (some n) l tl).1 k j = lkn T k j) ∧
      lkn (tAdd T (some n) l tl).1 k 4 = (if k = n ∧ lkn T n 5 = none then some (tN T) else lkn T k 4) ∧ lkn (tAdd T (some n) l tl).1 k 5 = (if k = n then some (tN T) else lkn T k 5) ∧ lkn (tAdd T (some n) l tl).1 k 6 = (if lkn T n 5 = some k then some (tN T) else lkn T k 6)) := by
  obtain ⟨h1, h2, h3, h4, h5⟩ := tAdd_ok h
  have e5 : lkn (tOpen T (some n) l) n 5 = lkn T n 5 := by unfold lkn; rw [tOpen_ne (by omega)]
  have hq : ∀ q, lkn (tOpen T (some n) l) n 5 = some q → q ≠ n := fun q e z => by
    rw [e5] at e
    have := (hW.2.2 n hn).2.2.2.1 q e
    omega
  have hqN : ∀ q, lkn T n 5 = some q → q < tN T := fun q e => ((hW.2.2 n hn).2.2.2.1 q e).2
  have ep : ∀ k, _ := fun k => tPut_o (T := tOpen T (some n) l) (p := n) (n := tN T) (k := k)
  have el : ∀ k, _ := fun k => tPut_lk (T := tOpen T (some n) l) (p := n) (n := tN T) (k := k) hq
  rw [h5]
  have eN : tLnk (tOpen T (some n) l) (some n) (tN T) = tPut (tOpen T (some n) l) n (tN T) := rfl
  simp only [eN]
  refine ⟨by rw [(ep 0).2.2.2.1]; rfl, by rw [(ep 0).2.2.2.2.1]; rfl, h4, h2, trivial, ?_, fun k hk => ?_⟩
  · refine Prod.ext ?_ (Prod.ext ?_ ?_)
    · rw [(ep _).1, tOpen_eq]
    · funext j
      by_cases j4 : j = 4
      · subst j4
        have := (el (tN T)).1
        rw [if_neg (by omega)] at this
        refine Eq.trans this ?_
        unfold lkn; rw [tOpen_eq]
      · by_cases j5 : j = 5
        · subst j5
          have := (el (tN T)).2.1
          rw [if_neg (by omega)] at this
          refine Eq.trans this ?_
          unfold lkn; rw [tOpen_eq]
        · by_cases j6 : j = 6
          · subst j6
            have := (el (tN T)).2.2
            rw [if_neg (by rw [e5]; intro z; have := hqN _ z; omega)] at this
            refine Eq.trans this ?_
            unfold lkn; rw [tOpen_eq]
          · rw [(ep (tN T)).2.2.1 j j4 j5 j6, tOpen_eq]
    · rw [(ep _).2.1, tOpen_eq]
  · have eo := tOpen_ne (T := T) (ab := some n) (l := l) (k := k) (by omega)
    have ek : ∀ j, lkn (tOpen T (some n) l) k j = lkn T k j := fun j => by unfold lkn; rw [eo]
    have hk' := el k
    rw [e5, ek, ek, ek] at hk'
    refine ⟨by rw [(ep k).1, eo], by rw [(ep k).2.1, eo], fun j a b c => ?_, hk'.1, hk'.2.1, hk'.2.2⟩
    have := (ep k).2.2.1 j a b c
    refine Eq.trans this ?_
    rw [eo]; rfl
/-- a child more -/
theorem WF.add {pt : Nat → Int32} {T : TS} {n b c : Nat} {l : List Int32} {tl : Bool} (hW : WF pt T (some n)) (hn : n < tN T) (hC : Ch T n b c) (hb : b + c = tN T) (hk : kd T n ≠ 8) (hl : tmq (nP (sgP pt)) (gA pt (tV T)) l) (hg : tG (tAdd T (some n) l tl).1 = false) :
    WF pt (tAdd T (some n) l tl).1 (some n) ∧ Ch (tAdd T (some n) l tl).1 n b (c + 1) ∧ tN (tAdd T (some n) l tl).1 = tN T + 1 ∧ tV (tAdd T (some n) l tl).1 = tV T ∧ tmn (tAdd T (some n) l tl).1 (tN T) = l ∧ (∀ k, k < tN T → (tD (tAdd T (some n) l tl).1 k).1 = (tD T k).1 ∧ tmn (tAdd T (some n) l tl).1 k = tmn T k) ∧ (tAdd T (some n) l tl).2 = some (tN T) := by
  obtain ⟨a1, a2, a3, a4, a5, a6, a7⟩ := tAdd_all hW.1 hn hg
  have hWL := hW.1.add (ab := some n) (l := l) (tl := tl) (fun p e => by cases e; exact hn)
  generalize (tAdd T (some n) l tl).1 = T' at *
  have ht : ∀ k, k < tN T → tmn T' k = tmn T k := fun k hk => by
    unfold tmn ntm; rw [(a7 k hk).2.1]
  have hq5 : ∀ k, lkn T n 5 = some k → c ≠ 0 ∧ k = b + c - 1 := fun k e => by
    rw [hC.2.2.2.1] at e
    by_cases z : c = 0
    · rw [if_pos z] at e; cases e
    · rw [if_neg z] at e; exact ⟨z, (Option.some.inj e).symm⟩
  refine ⟨⟨hWL, hg, fun k hk' => ?_⟩, ?_, a1, a2, ?_, fun k hk' => ⟨(a7 k hk').1, ht k hk'⟩, a5⟩
  · rw [a1] at hk'
    rw [a2]
    by_cases e : k = tN T
    · subst e
      have hkd : kd T' (tN T) = 8 := by unfold kd; rw [a6]; rfl
      refine ⟨?_, ?_, ?_⟩
      · rw [a6]
        refine ⟨hl, ⟨8, by omega, rfl⟩, rfl, rfl, fun _ => ⟨rfl, rfl⟩, fun _ => rfl, ?_, ?_, ?_, ?_⟩
        · intro z; rcases z with z | z <;> exact absurd (show (8 : Int32) = _ from z) (by decide)
        · intro z; exact absurd (show (8 : Int32) = _ from z) (by decide)
        · intro z; exact absurd (show (8 : Int32) = _ from z) (by decide)
        · intro _; rfl
      · intro z; rw [hkd] at z; exact absurd z (by decide)
      · intro _ z
        rw [hkd] at z
        exact absurd z (by decide)
    · have hkN : k < tN T := by omega
      obtain ⟨w1, w2, w3⟩ := hW.2.2 k hkN
      have ak := a7 k hkN
      refine ⟨?_, ?_, ?_⟩
      · obtain ⟨x1, x2, x3, x4, x5, x6, x7, x8, x9, x10⟩ := w1
        have en : ntm (tD T' k) = ntm (tD T k) := ht k hkN
        have er : nrs (tD T' k) = nrs (tD T k) := by unfold nrs; rw [ak.2.1]
        unfold ndW
        rw [ak.1, en, er]
        refine ⟨x1, x2, x3, x4, fun z => ?_, fun z => ?_, x7, x8, x9, x10⟩
        · have h5 := x5 z
          have hkn : k ≠ n := fun y => by subst y; exact hk z
          have e4 : lkn T' k 4 = lkn T k 4 := by rw [ak.2.2.2.1, if_neg (fun y => hkn y.1)]
          have e5 : lkn T' k 5 = lkn T k 5 := by rw [ak.2.2.2.2.1, if_neg hkn]
          exact ⟨e4.trans h5.1, e5.trans h5.2⟩
        · exact (ak.2.2.1 9 (by decide) (by decide) (by decide)).trans (x6 z)
      · refine w2.tr hW.1.AW hkN ?_ ?_ (ak.2.2.1 9 (by decide) (by decide) (by decide)) ht (fun j hj => (a7 j hj).2.2.1 3 (by decide) (by decide) (by decide)) (fun u hu _ z => ?_)
        · unfold kd; rw [ak.1]
        · unfold dt; rw [ak.1]
        · unfold kd at z ⊢; rw [(a7 u (by omega)).1]; exact z
      · intro hx
        have hkn : k ≠ n := fun y => hx (by rw [y])
        refine (w3 hx).tr hkN ?_ ?_ (by rw [ak.1]) (by rw [ak.2.2.2.1, if_neg (fun y => hkn y.1)]) (by rw [ak.2.2.2.2.1, if_neg hkn]) ht (fun j hj h3 => ?_) (by omega)
        · unfold kd; rw [ak.1]
        · unfold dt; rw [ak.1]
        · have aj := a7 j hj
          refine ⟨aj.2.2.1 3 (by decide) (by decide) (by decide), ?_, by rw [aj.1], by rw [aj.1]⟩
          rw [aj.2.2.2.2.2, if_neg]
          intro z
          obtain ⟨z1, z2⟩ := hq5 j z
          have := (hC.2.2.2.2 (c - 1) (by omega)).1
          rw [show b + (c - 1) = j by omega, h3] at this
          exact hkn (Option.some.inj this)
  · have an := a7 n hn
    refine ⟨hC.1, by omega, ?_, ?_, fun i hi => ?_⟩
    · rw [an.2.2.2.1, hC.2.2.1, hC.2.2.2.1, if_neg (show ¬ c + 1 = 0 by omega)]
      by_cases z : c = 0
      · rw [if_pos z, if_pos z, if_pos ⟨rfl, rfl⟩]
        congr 1
        omega
      · rw [if_neg z, if_neg z, if_neg (fun y => by cases y.2)]
    · rw [an.2.2.2.2.1, if_pos rfl, if_neg (by omega)]
      congr 1
      omega
    · by_cases z : i = c
      · subst z
        rw [hb]
        have e3 : lkn T' (tN T) 3 = some n := by unfold lkn; rw [a6]; rfl
        have e6 : lkn T' (tN T) 6 = none := by unfold lkn; rw [a6]; rfl
        exact ⟨e3, by rw [e6, if_neg (by omega)]⟩
      · have hic : i < c := by omega
        have hiN : b + i < tN T := by omega
        have ai := a7 (b + i) hiN
        have old := hC.2.2.2.2 i hic
        refine ⟨(ai.2.2.1 3 (by decide) (by decide) (by decide)).trans old.1, ?_⟩
        rw [ai.2.2.2.2.2, hC.2.2.2.1, if_neg (show ¬ c = 0 by omega), if_pos (show i + 1 < c + 1 by omega)]
        by_cases y : b + c - 1 = b + i
        · rw [if_pos (by rw [y])]
          congr 1
          omega
        · rw [if_neg (fun z => y (Option.some.inj z)), old.2, if_pos (by omega)]
  · unfold tmn; rw [a6]; rfl
