/-! pure: the calls of the residual program; the root -/
def R0 (l : List Int32) (T : TS) : Prop := 0 < tN T ∧ tmn T 0 = l ∧ lkn T 0 3 = none ∧ kd T 0 ≠ 0
theorem R0.cg {l : List Int32} {T T' : TS} (h : R0 l T) (hD : tD T' = tD T) (hN : tN T' = tN T) : R0 l T' := by
  unfold R0 tmn lkn kd at h ⊢
  rw [hD, hN]
  exact h
theorem R0.up {l : List Int32} {T : TS} {n : Nat} {x : ND} (h : R0 l T) (ht : ntm x = tmn T n) (h3 : x.2.1 3 = lkn T n 3) (h7 : x.1 7 ≠ 0) : R0 l (tUp T n x) := by
  obtain ⟨h1, h2, h4, h5⟩ := h
  refine ⟨h1, ?_, ?_, ?_⟩ <;> (first | unfold tmn | unfold lkn | unfold kd) <;> by_cases e : 0 = n
  · subst e; rw [tD_up, ht]; exact h2
  · rw [tD_ne e]; exact h2
  · subst e; rw [tD_up, h3]; exact h4
  · rw [tD_ne e]; exact h4
  · subst e; rw [tD_up]; exact h7
  · rw [tD_ne e]; exact h5
theorem R0.bec {l : List Int32} {T : TS} {n : Nat} {k v : Int32} (h : R0 l T) (hk : k ≠ 0) : R0 l (tUp T n (nBecome (tD T n) k v)) := h.up rfl rfl hk
theorem R0.add {l : List Int32} {T : TS} {n : Nat} {r : List Int32} {tl : Bool} (h : R0 l T) : R0 l (tAdd T (some n) r tl).1 := by
  unfold tAdd
  split
  · exact h
  · show R0 l (tPut (tOpen T (some n) r) n (tN T))
    obtain ⟨h1, h2, h4, h5⟩ := h
    have ep := tPut_o (T := tOpen T (some n) r) (p := n) (n := tN T) (k := 0)
    have eo := tOpen_ne (T := T) (ab := some n) (l := r) (k := 0) (by omega)
    refine ⟨by rw [ep.2.2.2.1]; exact Nat.succ_pos _, ?_, ?_, ?_⟩
    · unfold tmn ntm; rw [ep.2.1, eo]; exact h2
    · unfold lkn; rw [ep.2.2.1 3 (by decide) (by decide) (by decide), eo]; exact h4
    · unfold kd; rw [ep.1, eo]; exact h5
theorem R0.bld {l : List Int32} {Q : Int32 → Int32} {n : Nat} {zs : List Int32} {tl : Bool} : ∀ {k pl : Nat} {T : TS}, R0 l T → R0 l (tBld Q n zs tl k pl T)
  | 0, pl, T, h => h
  | k + 1, pl, T, h => R0.bld (k := k) h.add
theorem R0.letL {l : List Int32} {Q : Int32 → Int32} {n : Nat} {zs : List Int32} {tl : Bool} {st : Nat → Nat} : ∀ {f k : Nat} {T : TS}, R0 l T → R0 l (tLetL Q n zs tl st f k T)
  | 0, k, T, h => h
  | f + 1, k, T, h => R0.letL (f := f) h.add
theorem R0.lett {l : List Int32} {Q : Int32 → Int32} {T : TS} {n : Nat} {S : GS} {st : Nat → Nat} (h : R0 l T) : R0 l (tLet Q T n S st) := by
  unfold tLet
  have h1 : R0 l (tLet0 T n S) := h.up rfl rfl (by show (7 : Int32) ≠ 0; decide)
  exact R0.letL h1.add
theorem R0.rm {l : List Int32} {T : TS} {a : Nat} (h : R0 l T) (hW : WL T) (ha : a < tN T) : R0 l (tRm T a) := by
  obtain ⟨h1, h2, h4, h5⟩ := h
  have hN : tN (tRm T a) = tN T := (tRm_o (q := 0)).2
  have hd := tRm_d (k := 0) hW.AW ha h1
  have hb : isBel T 0 a = false := rfl
  rw [if_neg (show ¬ isBel T 0 a = true by rw [hb]; decide)] at hd
  refine ⟨by rw [hN]; exact h1, ?_, ?_, ?_⟩
  · unfold tmn; rw [hd]; split
    · next z => subst z; exact h2
    · exact h2
  · unfold lkn; rw [hd]; split
    · next z => subst z; exact h4
    · exact h4
  · unfold kd; rw [hd]; split
    · next z => subst z; exact h5
    · exact h5
theorem R0.gen {l : List Int32} {Q : Int32 → Int32} {T : TS} {b a : Nat} {S : GS} (h : R0 l T) (hW : WL T) (ha : a < tN T) : R0 l (tGen Q T b a S).2 := by
  have hc : ∀ (zu zl : List Int32) (f i j : Nat) (S : GS), R0 l (tCom Q zu zl f i j S T).2 := fun zu zl f i j S => h.cg tCom_o.1 tCom_o.2
  unfold tGen
  split
  · split
    · exact (hc _ _ _ _ _ _).lett
    · exact ((hc _ _ _ _ _ _).rm (WL.com hW) (by rw [tCom_o.2]; exact ha)).lett
  · exact R0.lett (h.cg tApart_o.1 tApart_o.2)
theorem R0.cls {l : List Int32} {pt : Nat → Int32} {cs : Nat → Bool} {bd : Nat → List Int32} {T : TS} {n a : Nat} {v : Int32} {c : Nat} (h : R0 l T) : R0 l (tCls pt cs bd T n a v c) := by
  unfold tCls
  have h1 : R0 l (aPat T c).1 := h.cg tNK_o.1 tNK_o.2.1
  have h2 := h1.add (n := n) (r := (uL pt cs bd (aRep T n c v) a).take 40) (tl := decide (40 < (uL pt cs bd (aRep T n c v) a).length))
  unfold tSet
  split
  · exact h2
  · next m em =>
    have hm : (tD (tAdd (aPat T c).1 (some n) ((uL pt cs bd (aRep T n c v) a).take 40) (decide (40 < (uL pt cs bd (aRep T n c v) a).length))).1 m).1 7 = 8 := by
      unfold tAdd at em ⊢
      split at em
      · cases em
      · next z =>
        cases em
        rw [if_neg z]
        show (tD (tPut _ _ _) _).1 7 = 8
        rw [(tPut_o).1, tOpen_eq]
        rfl
    exact h2.up rfl rfl (by show (tD _ m).1 7 ≠ 0; rw [hm]; decide)
theorem R0.spl {l : List Int32} {pt : Nat → Int32} {cs : Nat → Bool} {bd : Nat → List Int32} {n a : Nat} {v : Int32} : ∀ {f c : Nat} {T : TS}, R0 l T → R0 l (tSpL pt cs bd n a v f c T)
  | 0, c, T, h => h
  | f + 1, c, T, h => by
    unfold tSpL
    split
    · exact h
    · split
      · exact R0.spl h.cls
      · exact R0.spl h
theorem R0_stl {l : List Int32} {pt : Nat → Int32} {cs : Nat → Bool} {bd : Nat → List Int32} {T : TS} {n : Nat} {S : GS} (hW : WL T) (h : R0 l T) : R0 l (stl pt cs bd T n S).2 := by
  unfold stl
  split
  · next hc =>
    have hn := hc.1
    split
    · split
      · exact h
      · split
        · exact h.bec (by decide)
        · split
          · next u e => exact h.up rfl rfl (by show (6 : Int32) ≠ 0; decide)
          · split
            · next u e =>
              obtain ⟨⟨e1, e2, e3⟩, e4⟩ := riv_spec hW.AW hn e
              exact h.gen hW e3
            · split
              · have h1 : R0 l (tUp T n (nBecome (tD T n) 3 (-1))) := h.bec (by decide)
                exact h1.add
              · have h1 : R0 l (tUp T n (nBecome (tD T n) 4 ((t40 T n).getD (‹Nat› + 1) (-1)))) := h.bec (by decide)
                exact R0.spl h1
    · unfold tSwc
      split
      · exact h.bec (by decide)
      · exact R0.bld (h.bec (by decide))
  · exact h
theorem R0_dL {l : List Int32} {pt : Nat → Int32} {cs : Nat → Bool} {bd : Nat → List Int32} : ∀ {f n : Nat} {S : GS} {T : TS}, WL T → R0 l T → R0 l (dL pt cs bd f n S T).2
  | 0, n, S, T, _, h => h
  | f + 1, n, S, T, hW, h => by
    rw [dL]
    split
    · exact R0_dL (WL_stl hW) (R0_stl hW h)
    · exact h
theorem R0_dT {X : CS} {S : GS} (h : (kG X).length ≤ 24) : R0 (kG X) (dT X S) := by
  obtain ⟨e1, e2, e3, e4⟩ := dBeg_G h
  refine R0_dL WG_0.1 ⟨by rw [e2]; exact Nat.succ_pos _, ?_, ?_, ?_⟩
  · unfold tmn; rw [e4]; rfl
  · unfold lkn; rw [e4]; rfl
  · unfold kd; rw [e4]; show (8 : Int32) ≠ 0; decide
def rA0 (T : TS) (j : Nat) : Prop := (100 ≤ j ∧ j < 106) ∨ (∃ m, m < tN T ∧ fnT T m = true ∧ j = 300 + m) ∨ j = 400
theorem clB_ch {T : TS} {n b k : Nat} {c : Int32} (hC : Ch T n b k) : ∀ (d i f : Nat), i + d = k → d ≤ f → (clB T c f (if i < k then some (b + i) else none) = none ∧ ∀ j, i ≤ j → j < k → (tD T (b + j)).1 11 ≠ c) ∨ ∃ j, i ≤ j ∧ j < k ∧ clB T c f (if i < k then some (b + i) else none) = some (b + j) ∧ (tD T (b + j)).1 11 = c ∧ ∀ j', i ≤ j' → j' < j → (tD T (b + j')).1 11 ≠ c
  | 0, i, f, hi, _ => by
    rw [if_neg (by omega), clB_none]
    exact Or.inl ⟨rfl, fun j h1 h2 => by omega⟩
  | d + 1, i, f, hi, hf => by
    obtain ⟨f, rfl⟩ : ∃ r, f = r + 1 := ⟨f - 1, by omega⟩
    rw [if_pos (by omega)]
    have h6 : (tD T (b + i)).2.1 6 = if i + 1 < k then some (b + (i + 1)) else none := (hC.2.2.2.2 i (by omega)).2
    unfold clB
    by_cases e : (tD T (b + i)).1 11 = c
    · rw [if_pos e]
      exact Or.inr ⟨i, by omega, by omega, rfl, e, fun j' h1 h2 => by omega⟩
    · rw [if_neg e, h6]
      rcases clB_ch (c := c) hC d (i + 1) f (by omega) (by omega) with ⟨h1, h2⟩ | ⟨j, h1, h2, h3, h4, h5⟩
      · exact Or.inl ⟨h1, fun j j1 j2 => by
          by_cases z : j = i
          · rw [z]; exact e
          · exact h2 j (by omega) j2⟩
      · exact Or.inr ⟨j, by omega, h2, h3, h4, fun j' j1 j2 => by
          by_cases z : j' = i
          · rw [z]; exact e
          · exact h5 j' (by omega) j2⟩
theorem pl1_has {l : List Int32} {s : Int32} : (∀ x ∈ l, x ∈ pl1 l s) ∧ (¬ (100 : Int32) ≤ s → s ∈ pl1 l s) := by
  unfold pl1 hd1
  by_cases h : (100 : Int32) ≤ s
  · rw [if_pos h]
    exact ⟨fun x hx => hx, fun z => absurd h z⟩
  · rw [if_neg h]
    by_cases h2 : fidx s l < l.length
    · rw [if_pos h2]
      exact ⟨fun x hx => hx, fun _ => by have := getD_mem h2; rw [fidx_lt h2] at this; exact this⟩
    · rw [if_neg h2]
      exact ⟨fun x hx => by simp [hx], fun _ => by simp⟩
theorem pf_has : ∀ {zs l : List Int32}, (∀ x ∈ l, x ∈ zs.foldl pl1 l) ∧ ∀ x ∈ zs, ¬ (100 : Int32) ≤ x → x ∈ zs.foldl pl1 l
  | [], l => ⟨fun x hx => hx, fun x hx => by cases hx⟩
  | s :: zs, l => by
    rw [List.foldl_cons]
    obtain ⟨i1, i2⟩ := pf_has (zs := zs) (l := pl1 l s)
    have hp := pl1_has (l := l) (s := s)
    refine ⟨fun x hx => i1 x (hp.1 x hx), fun x hx h => ?_⟩
    rcases List.mem_cons.mp hx with e | e
    · subst e; exact i1 x (hp.2 h)
    · exact i2 x e h
theorem pF_has {T : TS} {n k : Nat} (hk : k < 100) (hm : nI k ∈ tmn T n) : nI k ∈ pF T n := by
  unfold pF
  exact pf_has.2 _ hm (show ¬ (100 : Int32) ≤ nI k from nI_ge hk (by decide))
theorem pl1_0 {l : List Int32} {s : Int32} {x : Int32} (h : l.getD 0 (-1) = x) (hl : 0 < l.length) : (pl1 l s).getD 0 (-1) = x ∧ 0 < (pl1 l s).length := by
  refine ⟨?_, by have := (pl1_len (l := l) (s := s)).1; omega⟩
  unfold pl1 hd1
  split
  · exact h
  · split
    · exact h
    · cases l with
      | nil => cases hl
      | cons y l => exact h
theorem pf_0 : ∀ {zs l : List Int32} {x : Int32}, l.getD 0 (-1) = x → 0 < l.length → (zs.foldl pl1 l).getD 0 (-1) = x
  | [], l, x, h, _ => h
  | s :: zs, l, x, h, hl => by
    rw [List.foldl_cons]
    have := pl1_0 (s := s) h hl
    exact pf_0 this.1 this.2
theorem pF_0 {T : TS} {n : Nat} (h4 : kd T n = 4) : (pF T n).getD 0 (-1) = dt T n := by
  unfold pF
  rw [if_pos h4]
  exact pf_0 rfl (by simp)
