/-! pure: what stands first in a leaf and in a node that builds -/
def HD (P : Int32 → Int32) (T : TS) : Prop := ∀ n, n < tN T → (kd T n = 1 → isC ((tmn T n).getD 0 (-1)) = false ∧ nP P ((tmn T n).getD 0 (-1)) = 0) ∧ (kd T n = 2 → isC ((tmn T n).getD 0 (-1)) = false)
def WH (P : Int32 → Int32) (T : TS) : Prop := WL T ∧ HD P T
theorem HD.cg {P : Int32 → Int32} {T T' : TS} (h : HD P T) (hD : tD T' = tD T) (hN : tN T' = tN T) : HD P T' := by
  intro n hn
  unfold kd tmn
  rw [hD]
  exact h n (by rw [← hN]; exact hn)
theorem HD.up {P : Int32 → Int32} {T : TS} {n : Nat} {x : ND} (h : HD P T) (h1 : x.1 7 = 1 → isC ((ntm x).getD 0 (-1)) = false ∧ nP P ((ntm x).getD 0 (-1)) = 0) (h2 : x.1 7 = 2 → isC ((ntm x).getD 0 (-1)) = false) : HD P (tUp T n x) := by
  intro k hk
  unfold kd tmn
  by_cases e : k = n
  · subst e
    rw [tD_up]
    exact ⟨h1, h2⟩
  · rw [tD_ne e]
    exact h k hk
theorem HD.bec {P : Int32 → Int32} {T : TS} {n : Nat} {k v : Int32} (h : HD P T) (h1 : k ≠ 1) (h2 : k ≠ 2) : HD P (tUp T n (nBecome (tD T n) k v)) := h.up (fun z => absurd (show k = 1 from z) h1) (fun z => absurd (show k = 2 from z) h2)
theorem HD.add {P : Int32 → Int32} {T : TS} {n : Nat} {l : List Int32} {tl : Bool} (h : HD P T) : HD P (tAdd T (some n) l tl).1 := by
  unfold tAdd
  split
  · exact h
  · show HD P (tPut (tOpen T (some n) l) n (tN T))
    intro k hk
    have ep := tPut_o (T := tOpen T (some n) l) (p := n) (n := tN T) (k := k)
    rw [ep.2.2.2.1] at hk
    have hk : k < tN T + 1 := hk
    unfold kd tmn ntm
    rw [ep.1, ep.2.1]
    by_cases e : k = tN T
    · subst e
      rw [tOpen_eq]
      exact ⟨fun z => absurd (show (8 : Int32) = 1 from z) (by decide), fun z => absurd (show (8 : Int32) = 2 from z) (by decide)⟩
    · rw [tOpen_ne e]
      exact h k (by omega)
theorem HD.bld {Q P : Int32 → Int32} {n : Nat} {zs : List Int32} {tl : Bool} : ∀ {k pl : Nat} {T : TS}, HD P T → HD P (tBld Q n zs tl k pl T)
  | 0, pl, T, h => h
  | k + 1, pl, T, h => HD.bld (k := k) h.add
theorem HD.letL {Q P : Int32 → Int32} {n : Nat} {zs : List Int32} {tl : Bool} {st : Nat → Nat} : ∀ {f k : Nat} {T : TS}, HD P T → HD P (tLetL Q n zs tl st f k T)
  | 0, k, T, h => h
  | f + 1, k, T, h => HD.letL (f := f) h.add
theorem HD.lett {Q P : Int32 → Int32} {T : TS} {n : Nat} {S : GS} {st : Nat → Nat} (h : HD P T) : HD P (tLet Q T n S st) := by
  unfold tLet
  have h1 : HD P (tLet0 T n S) := h.up (fun z => absurd (show (7 : Int32) = 1 from z) (by decide)) (fun z => absurd (show (7 : Int32) = 2 from z) (by decide))
  exact HD.letL h1.add
theorem HD.rm {P : Int32 → Int32} {T : TS} {a : Nat} (h : HD P T) (hW : WL T) (ha : a < tN T) : HD P (tRm T a) := by
  intro k hk
  have hN : tN (tRm T a) = tN T := (tRm_o (q := 0)).2
  rw [hN] at hk
  unfold kd tmn
  rw [tRm_d hW.AW ha hk]
  split
  · next z => subst z; exact h k hk
  · split
    · exact ⟨fun z => absurd (show (0 : Int32) = 1 from z) (by decide), fun z => absurd (show (0 : Int32) = 2 from z) (by decide)⟩
    · exact h k hk
theorem HD.gen {Q P : Int32 → Int32} {T : TS} {b a : Nat} {S : GS} (h : HD P T) (hW : WL T) (ha : a < tN T) : HD P (tGen Q T b a S).2 := by
  have hc : ∀ (zu zl : List Int32) (f i j : Nat) (S : GS), HD P (tCom Q zu zl f i j S T).2 := fun zu zl f i j S => h.cg tCom_o.1 tCom_o.2
  unfold tGen
  split
  · split
    · exact (hc _ _ _ _ _ _).lett
    · exact ((hc _ _ _ _ _ _).rm (WL.com hW) (by rw [tCom_o.2]; exact ha)).lett
  · exact HD.lett (h.cg tApart_o.1 tApart_o.2)
theorem HD.cls {P : Int32 → Int32} {pt : Nat → Int32} {cs : Nat → Bool} {bd : Nat → List Int32} {T : TS} {n a : Nat} {v : Int32} {c : Nat} (h : HD P T) : HD P (tCls pt cs bd T n a v c) := by
  unfold tCls
  have h1 : HD P (aPat T c).1 := h.cg tNK_o.1 tNK_o.2.1
  have h2 := h1.add (n := n) (l := (uL pt cs bd (aRep T n c v) a).take 40) (tl := decide (40 < (uL pt cs bd (aRep T n c v) a).length))
  unfold tSet
  split
  · exact h2
  · next m em =>
    have hm : (tD (tAdd (aPat T c).1 (some n) ((uL pt cs bd (aRep T n c v) a).take 40) (decide (40 < (uL pt cs bd (aRep T n c v) a).length))).1 m).1 7 = 8 := by
      unfold tAdd at em ⊢
      split at em
      · cases em
      · next z =>
        cases em
        rw [if_neg z]
        show (tD (tPut _ _ _) _).1 7 = 8
        rw [(tPut_o).1, tOpen_eq]
        rfl
    refine h2.up (fun z => absurd (hm.symm.trans z) (by decide)) (fun z => absurd (hm.symm.trans z) (by decide))
theorem HD.spl {P : Int32 → Int32} {pt : Nat → Int32} {cs : Nat → Bool} {bd : Nat → List Int32} {n a : Nat} {v : Int32} : ∀ {f c : Nat} {T : TS}, HD P T → HD P (tSpL pt cs bd n a v f c T)
  | 0, c, T, h => h
  | f + 1, c, T, h => by
    unfold tSpL
    split
    · exact h
    · split
      · exact HD.spl h.cls
      · exact HD.spl h
theorem tk40_0 {l : List Int32} : (l.take 40).getD 0 (-1) = l.getD 0 (-1) := by cases l <;> rfl
theorem HD_stl {pt : Nat → Int32} {cs : Nat → Bool} {bd : Nat → List Int32} {T : TS} {n : Nat} {S : GS} (hW : WL T) (h : HD (sgP pt) T) : HD (sgP pt) (stl pt cs bd T n S).2 := by
  unfold stl
  split
  · next hc =>
    have hn := hc.1
    split
    · split
      · exact h
      · split
        · exact h.bec (by decide) (by decide)
        · split
          · next u e =>
            exact h.up (fun z => absurd (show (6 : Int32) = 1 from z) (by decide)) (fun z => absurd (show (6 : Int32) = 2 from z) (by decide))
          · split
            · next u e =>
              obtain ⟨⟨e1, e2, e3⟩, e4⟩ := riv_spec hW.AW hn e
              exact h.gen hW e3
            · split
              · have h1 : HD (sgP pt) (tUp T n (nBecome (tD T n) 3 (-1))) := h.bec (by decide) (by decide)
                exact h1.add
              · have h1 : HD (sgP pt) (tUp T n (nBecome (tD T n) 4 ((t40 T n).getD (‹Nat› + 1) (-1)))) := h.bec (by decide) (by decide)
                exact HD.spl h1
    · next hC =>
      have e0 : (t40 T n).getD 0 (-1) = (ntm (tD T n)).getD 0 (-1) := tk40_0
      rw [e0] at hC
      have hC : isC ((ntm (tD T n)).getD 0 (-1)) = false := Bool.eq_false_iff.mpr hC
      unfold tSwc
      split
      · next z =>
        rw [e0] at z
        exact h.up (fun _ => ⟨hC, z⟩) (fun y => absurd (show (1 : Int32) = 2 from y) (by decide))
      · exact HD.bld (h.up (fun y => absurd (show (2 : Int32) = 1 from y) (by decide)) (fun _ => hC))
  · exact h
theorem HD_0 {P : Int32 → Int32} {T : TS} {l : List Int32} : HD P (tAdd (tClr T) none l false).1 := by
  unfold tAdd
  split
  · intro k hk
    exact absurd hk (Nat.not_lt_zero _)
  · intro k hk
    have hk : k < 1 := hk
    obtain rfl : k = 0 := by omega
    have e : tD (tLnk (tOpen (tClr T) none l) none (tN (tClr T))) 0 = nOpen (tD (tClr T) 0) none l := tOpen_eq (T := tClr T)
    unfold kd
    rw [e]
    exact ⟨fun z => absurd (show (8 : Int32) = 1 from z) (by decide), fun z => absurd (show (8 : Int32) = 2 from z) (by decide)⟩
