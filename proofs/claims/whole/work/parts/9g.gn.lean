/-! pure: a node that is there has no child that is gone -/
def GN (T : TS) : Prop := ∀ k p, k < tN T → kd T k = 0 → lkn T k 3 = some p → kd T p = 0 ∨ ∀ q, lkn T p 4 = some q → k < q
def WG (T : TS) : Prop := WL T ∧ GN T
theorem GN.cg {T T' : TS} (h : GN T) (hD : tD T' = tD T) (hN : tN T' = tN T) : GN T' := by
  intro k p hk h0 h3
  unfold kd at h0 ⊢
  unfold lkn at h3 ⊢
  rw [hD] at h0 h3 ⊢
  exact h k p (by rw [← hN]; exact hk) h0 h3
theorem WG.up {T : TS} {n : Nat} {x : ND} (h : WG T) (hn : n < tN T) (hx : ndL (tN T) n x) (h7 : x.1 7 ≠ 0) (hk : kd T n ≠ 0) (h3 : x.2.1 3 = lkn T n 3) (h4 : x.2.1 4 = lkn T n 4) : WG (tUp T n x) := by
  refine ⟨h.1.up hx, fun k p hkN h0 hp => ?_⟩
  have ek : k ≠ n := fun z => by
    subst z
    unfold kd at h0
    rw [tD_up] at h0
    exact h7 h0
  have e0 : kd T k = 0 := by unfold kd at h0 ⊢; rw [tD_ne ek] at h0; exact h0
  have e3 : lkn T k 3 = some p := by unfold lkn at hp ⊢; rw [tD_ne ek] at hp; exact hp
  rcases h.2 k p hkN e0 e3 with z | z
  · left
    have : p ≠ n := fun y => hk (y ▸ z)
    unfold kd at z ⊢
    rw [tD_ne this]
    exact z
  · right
    intro q hq
    by_cases e : p = n
    · subst e
      unfold lkn at hq
      rw [tD_up, h4] at hq
      exact z q hq
    · unfold lkn at hq
      rw [tD_ne e] at hq
      exact z q hq
theorem WG.bec {T : TS} {n : Nat} {k v : Int32} (h : WG T) (hn : n < tN T) (hk : k ≠ 0) (h0 : kd T n ≠ 0) : WG (tUp T n (nBecome (tD T n) k v)) := h.up hn (h.1.2.2 n hn).become (by show k ≠ 0; exact hk) h0 rfl rfl
theorem WG.new {T : TS} (h : WG T) : WG (tNew T).1 := ⟨h.1.new, h.2.cg tNew_o.1 tNew_o.2⟩
theorem tPut_4 {T : TS} {p n k : Nat} : lkn (tPut T p n) k 4 = lkn T k 4 ∨ lkn (tPut T p n) k 4 = some n := by
  unfold tPut lkn
  rcases h : (tD T p).2.1 5 with _ | q
  · simp only [h]
    by_cases e : k = p
    · subst e; right; rw [tD_up]; simp [xr, upN]
    · left; rw [tD_ne e]
  · simp only [h]
    left
    by_cases e : k = p
    · subst e
      rw [tD_up]
      simp [xr, upN]
      by_cases e2 : k = q
      · subst e2; rw [tD_up]; rfl
      · rw [tD_ne e2]
    · rw [tD_ne e]
      by_cases e2 : k = q
      · subst e2; rw [tD_up]; simp [xr, upN]
      · rw [tD_ne e2]
theorem WG.add {T : TS} {n : Nat} {l : List Int32} {tl : Bool} (h : WG T) (hn : n < tN T) : WG (tAdd T (some n) l tl).1 := by
  refine ⟨h.1.add (fun p e => by cases e; exact hn), ?_⟩
  unfold tAdd
  split
  · exact h.2
  · show GN (tPut (tOpen T (some n) l) n (tN T))
    intro k p hk h0 h3
    have ep := fun k => tPut_o (T := tOpen T (some n) l) (p := n) (n := tN T) (k := k)
    rw [(ep 0).2.2.2.1] at hk
    have hk : k < tN T + 1 := hk
    unfold kd at h0
    rw [(ep k).1] at h0
    unfold lkn at h3
    rw [(ep k).2.2.1 3 (by decide) (by decide) (by decide)] at h3
    by_cases e : k = tN T
    · subst e
      rw [tOpen_eq] at h0
      exact absurd (show (8 : Int32) = 0 from h0) (by decide)
    · rw [tOpen_ne e] at h0 h3
      have hp := h.1.AW k (by omega) p h3
      rcases h.2 k p (by omega) h0 h3 with z | z
      · left
        unfold kd at z ⊢
        rw [(ep p).1, tOpen_ne (by omega)]
        exact z
      · right
        intro q hq
        rcases tPut_4 (T := tOpen T (some n) l) (p := n) (n := tN T) (k := p) with y | y
        · rw [y] at hq
          unfold lkn at hq
          rw [tOpen_ne (by omega)] at hq
          exact z q hq
        · rw [y] at hq
          cases hq
          omega
theorem WG.bld {P : Int32 → Int32} {n : Nat} {zs : List Int32} {tl : Bool} : ∀ {k pl : Nat} {T : TS}, WG T → n < tN T → WG (tBld P n zs tl k pl T)
  | 0, pl, T, h, hn => h
  | k + 1, pl, T, h, hn => WG.bld (k := k) (h.add hn) (Nat.lt_of_lt_of_le hn tAdd_N)
theorem WG.letL {P : Int32 → Int32} {n : Nat} {zs : List Int32} {tl : Bool} {st : Nat → Nat} : ∀ {f k : Nat} {T : TS}, WG T → n < tN T → WG (tLetL P n zs tl st f k T)
  | 0, k, T, h, hn => h
  | f + 1, k, T, h, hn => WG.letL (f := f) (h.add hn) (Nat.lt_of_lt_of_le hn tAdd_N)
theorem WG.lett {P : Int32 → Int32} {T : TS} {n : Nat} {S : GS} {st : Nat → Nat} (h : WG T) (hn : n < tN T) (h0 : kd T n ≠ 0) : WG (tLet P T n S st) := by
  unfold tLet
  have h1 : WG (tLet0 T n S) := h.up hn (by
    have h2 : ndL (tN T) n (nBecome (tD T n) 7 (nI (gC S))) := (h.1.2.2 n hn).become
    exact h2) (by show (7 : Int32) ≠ 0; decide) h0 rfl rfl
  have hn1 : n < tN (tLet0 T n S) := hn
  exact WG.letL (h1.add hn1) (Nat.lt_of_lt_of_le hn1 tAdd_N)
theorem WG.com {P : Int32 → Int32} {zu zl : List Int32} {f i j : Nat} {S : GS} {T : TS} (h : WG T) : WG (tCom P zu zl f i j S T).2 := ⟨WL.com h.1, h.2.cg tCom_o.1 tCom_o.2⟩
theorem WG.apart {P : Int32 → Int32} {zs : List Int32} {k pl : Nat} {S : GS} {T : TS} (h : WG T) : WG (tApart P zs k pl S T).2 := ⟨WL.apart h.1, h.2.cg tApart_o.1 tApart_o.2⟩
theorem isBel_par {T : TS} {k p a : Nat} (hA : AW T) (hk : k < tN T) (h3 : lkn T k 3 = some p) (hne : p ≠ a) (h : isBel T k a = true) : isBel T p a = true := by
  have hp := hA k hk p h3
  unfold isBel at h ⊢
  have h3' : (tD T k).2.1 3 = some p := h3
  rw [h3'] at h
  cases k with
  | zero => omega
  | succ k =>
    unfold tBel at h
    rw [if_neg hne] at h
    exact tBel_f hA (fun u hu => by have := hA p (by omega) u hu; omega) h
theorem WG.rm {T : TS} {a : Nat} (h : WG T) (ha : a < tN T) : WG (tRm T a) := by
  have hA := h.1.AW
  refine ⟨h.1.rm ha, fun k p hk h0 h3 => ?_⟩
  have hN : tN (tRm T a) = tN T := (tRm_o (q := 0)).2
  rw [hN] at hk
  have hd := fun k (hk : k < tN T) => tRm_d (T := T) (top := a) (k := k) hA ha hk
  have e3 : lkn T k 3 = some p := by
    unfold lkn at h3 ⊢
    rw [hd k hk] at h3
    split at h3
    · next z => subst z; exact h3
    · split at h3 <;> exact h3
  have hp := hA k hk p e3
  by_cases hb : isBel T k a = true
  · by_cases ep : p = a
    · right
      intro q hq
      unfold lkn at hq
      rw [hd p (by omega), if_pos ep] at hq
      cases hq
    · left
      unfold kd
      rw [hd p (by omega), if_neg ep, if_pos (isBel_par hA hk e3 ep hb)]
      rfl
  · have e0 : kd T k = 0 := by
      unfold kd at h0 ⊢
      rw [hd k hk] at h0
      split at h0
      · next z => subst z; exact h0
      · first | exact h0 | (rw [if_neg hb] at h0; exact h0)
    rcases h.2 k p hk e0 e3 with z | z
    · left
      unfold kd at z ⊢
      rw [hd p (by omega)]
      split
      · next y => subst y; exact z
      · split
        · rfl
        · exact z
    · right
      intro q hq
      unfold lkn at hq
      rw [hd p (by omega)] at hq
      split at hq
      · cases hq
      · split at hq <;> exact z q hq
theorem WG.gen {P : Int32 → Int32} {T : TS} {b a : Nat} {S : GS} (h : WG T) (hb : b < tN T) (ha : a < tN T) (h0 : kd T b ≠ 0) (h1 : kd T a ≠ 0) : WG (tGen P T b a S).2 := by
  unfold tGen
  split
  · split
    · exact h.com.lett (by rw [tCom_o.2]; exact hb) (by unfold kd; rw [tCom_o.1]; exact h0)
    · refine (h.com.rm (by rw [tCom_o.2]; exact ha)).lett (by rw [(tRm_o (q := 0)).2, tCom_o.2]; exact ha) ?_
      unfold kd
      rw [tRm_d h.com.1.AW (by rw [tCom_o.2]; exact ha) (by rw [tCom_o.2]; exact ha), if_pos rfl]
      show (tD (tCom _ _ _ _ _ _ _ _).2 a).1 7 ≠ 0
      rw [tCom_o.1]
      exact h1
  · exact h.apart.lett (by rw [tApart_o.2]; exact hb) (by unfold kd; rw [tApart_o.1]; exact h0)
theorem WG.nk {k : Nat} {T : TS} {l : List Int32} (h : WG T) : WG (tNK k T l).1 := ⟨WL.nk h.1, h.2.cg tNK_o.1 tNK_o.2.1⟩
theorem WG.cls {pt : Nat → Int32} {cs : Nat → Bool} {bd : Nat → List Int32} {T : TS} {n a : Nat} {v : Int32} {c : Nat} (h : WG T) (hn : n < tN T) : WG (tCls pt cs bd T n a v c) := by
  unfold tCls
  have e : tN (aPat T c).1 = tN T := tNK_o.2.1
  have h1 : WG (aPat T c).1 := WG.nk h
  have h2 := h1.add (n := n) (l := (uL pt cs bd (aRep T n c v) a).take 40) (tl := decide (40 < (uL pt cs bd (aRep T n c v) a).length)) (by rw [e]; exact hn)
  unfold tSet
  split
  · exact h2
  · next m em =>
    have hm : m < tN (tAdd (aPat T c).1 (some n) ((uL pt cs bd (aRep T n c v) a).take 40) (decide (40 < (uL pt cs bd (aRep T n c v) a).length))).1 ∧ kd (tAdd (aPat T c).1 (some n) ((uL pt cs bd (aRep T n c v) a).take 40) (decide (40 < (uL pt cs bd (aRep T n c v) a).length))).1 m ≠ 0 := by
      unfold tAdd at em ⊢
      split at em
      · cases em
      · next z =>
        cases em
        rw [if_neg z]
        refine ⟨?_, ?_⟩
        · show _ < tN (tPut _ _ _)
          rw [(tPut_o (k := 0)).2.2.2.1]
          exact Nat.lt_succ_self _
        · show (tD (tPut _ _ _) _).1 7 ≠ 0
          rw [(tPut_o).1, tOpen_eq]
          show (8 : Int32) ≠ 0
          decide
    exact h2.up hm.1 (h2.1.2.2 m hm.1) hm.2 hm.2 rfl rfl
theorem WG.spl {pt : Nat → Int32} {cs : Nat → Bool} {bd : Nat → List Int32} {n a : Nat} {v : Int32} : ∀ {f c : Nat} {T : TS}, WG T → n < tN T → WG (tSpL pt cs bd n a v f c T)
  | 0, c, T, h, hn => h
  | f + 1, c, T, h, hn => by
    unfold tSpL
    split
    · exact h
    · split
      · exact WG.spl (h.cls hn) (Nat.lt_of_lt_of_le hn (tCls_o (k := n) hn).2)
      · exact WG.spl h hn
theorem WG_stl {pt : Nat → Int32} {cs : Nat → Bool} {bd : Nat → List Int32} {T : TS} {n : Nat} {S : GS} (h : WG T) : WG (stl pt cs bd T n S).2 := by
  unfold stl
  split
  · next hc =>
    have hn := hc.1
    have h0 : kd T n ≠ 0 := by show (tD T n).1 7 ≠ 0; rw [hc.2.1]; decide
    split
    · split
      · exact h
      · split
        · exact h.bec hn (by decide) h0
        · split
          · next u e =>
            have hu := renR_lt h.1.AW hn e
            refine h.up hn ?_ (by show (6 : Int32) ≠ 0; decide) h0 rfl rfl
            have h2 : ndL (tN T) n (nBecome (tD T n) 6 (nI u)) := (h.1.2.2 n hn).become
            exact h2.lk (by decide) (fun _ m e => by cases e; exact hu.1) (fun z => absurd rfl z)
          · split
            · next u e =>
              obtain ⟨⟨e1, e2, e3⟩, e4⟩ := riv_spec h.1.AW hn e
              refine h.gen hn e3 h0 ?_
              rw [e1]
              generalize ufs cs (fun s x => (sB bd s x).map (fun i => 33 + 2 + 2 * i)) (t40 T n) _ = g
              cases g <;> decide
            · split
              · have h1 : WG (tUp T n (nBecome (tD T n) 3 (-1))) := h.bec hn (by decide) h0
                exact h1.add hn
              · have h1 : WG (tUp T n (nBecome (tD T n) 4 ((t40 T n).getD (‹Nat› + 1) (-1)))) := h.bec hn (by decide) h0
                exact WG.spl h1 hn
    · unfold tSwc
      split
      · exact h.bec hn (by decide) h0
      · exact WG.bld (h.bec hn (by decide) h0) hn
  · exact h
theorem WG.ch {T : TS} {n b c i : Nat} (h : WG T) (hC : Ch T n b c) (h0 : kd T n ≠ 0) (hi : i < c) : kd T (b + i) ≠ 0 := fun z => by
  have h1 := hC.2.1
  rcases h.2 (b + i) n (by omega) z (hC.2.2.2.2 i hi).1 with y | y
  · exact h0 y
  · have := y b (by rw [hC.2.2.1, if_neg (by omega)])
    omega
theorem WG_0 {T : TS} {l : List Int32} : WG (tAdd (tClr T) none l false).1 := by
  refine ⟨WL_clr.add (fun p e => by cases e), ?_⟩
  unfold tAdd
  split
  · intro k p hk
    exact absurd hk (Nat.not_lt_zero _)
  · intro k p hk h0
    have hk : k < 1 := hk
    obtain rfl : k = 0 := by omega
    have e : tD (tLnk (tOpen (tClr T) none l) none (tN (tClr T))) 0 = nOpen (tD (tClr T) 0) none l := tOpen_eq (T := tClr T)
    unfold kd at h0
    rw [e] at h0
    exact absurd (show (8 : Int32) = 0 from h0) (by decide)
