/-! pure: the links of the tree's nodes stay within bounds -/
def ndL (N n : Nat) (x : ND) : Prop := (ntm x).length ≤ 40 ∧ (∀ m, x.2.1 3 = some m → m < n) ∧ (∀ m, x.2.1 4 = some m → n < m ∧ m < N) ∧ (∀ m, x.2.1 5 = some m → n < m ∧ m < N) ∧ (∀ m, x.2.1 6 = some m → n < m ∧ m < N) ∧ ∀ m, x.2.1 9 = some m → m < n
def WL (T : TS) : Prop := tN T ≤ 48 ∧ tV T ≤ 100 ∧ ∀ n, n < tN T → ndL (tN T) n (tD T n)
theorem ndL.mono {N N' n : Nat} {x : ND} (h : ndL N n x) (hN : N ≤ N') : ndL N' n x :=
  ⟨h.1, h.2.1, fun m e => ⟨(h.2.2.1 m e).1, Nat.lt_of_lt_of_le (h.2.2.1 m e).2 hN⟩, fun m e => ⟨(h.2.2.2.1 m e).1, Nat.lt_of_lt_of_le (h.2.2.2.1 m e).2 hN⟩, fun m e => ⟨(h.2.2.2.2.1 m e).1, Nat.lt_of_lt_of_le (h.2.2.2.2.1 m e).2 hN⟩, h.2.2.2.2.2⟩
theorem xr_lk {x : ND} {j k : Nat} {o : Option Nat} : (xr x j o).2.1 k = if k = j then o else x.2.1 k := rfl
theorem ndL.lk {N n j : Nat} {x : ND} {o : Option Nat} (h : ndL N n x) (h3 : j ≠ 3) (h9 : j = 9 → ∀ m, o = some m → m < n) (ho : j ≠ 9 → ∀ m, o = some m → n < m ∧ m < N) : ndL N n (xr x j o) := by
  have key : ∀ k, k ≠ 3 → k ≠ 9 → (∀ m, x.2.1 k = some m → n < m ∧ m < N) → ∀ m, (xr x j o).2.1 k = some m → n < m ∧ m < N := by
    intro k _ k9 hk m e
    rw [xr_lk] at e
    by_cases z : k = j
    · rw [if_pos z] at e
      exact ho (by omega) m e
    · rw [if_neg z] at e
      exact hk m e
  refine ⟨h.1, fun m e => ?_, key 4 (by decide) (by decide) h.2.2.1, key 5 (by decide) (by decide) h.2.2.2.1, key 6 (by decide) (by decide) h.2.2.2.2.1, fun m e => ?_⟩
  · rw [xr_lk, if_neg (fun z => h3 z.symm)] at e
    exact h.2.1 m e
  · rw [xr_lk] at e
    by_cases z : 9 = j
    · rw [if_pos z] at e
      exact h9 z.symm m e
    · rw [if_neg z] at e
      exact h.2.2.2.2.2 m e
theorem ndL.become {N n : Nat} {x : ND} {k v : Int32} (h : ndL N n x) : ndL N n (nBecome x k v) := by
  have h2 : ndL N n (xr x 9 none) := h.lk (by decide) (fun _ m e => by cases e) (fun z => absurd rfl z)
  exact h2
theorem ndL.drop {N n : Nat} {x : ND} (h : ndL N n x) : ndL N n (nDrop x) := by
  have h2 : ndL N n (xr x 4 none) := h.lk (by decide) (fun z => by cases z) (fun _ m e => by cases e)
  exact h2.lk (by decide) (fun z => by cases z) (fun _ m e => by cases e)
theorem ndL.opn {N n : Nat} {x : ND} {ab : Option Nat} {l : List Int32} (hl : l.length ≤ 40) (ha : ∀ p, ab = some p → p < n) : ndL N n (nOpen x ab l) := by
  refine ⟨hl, ?_, ?_, ?_, ?_, ?_⟩
  · intro m e
    have e' : ab = some m := e
    exact ha m e'
  all_goals (intro m e; cases e)
theorem WL.up {T : TS} {n : Nat} {x : ND} (h : WL T) (hx : ndL (tN T) n x) : WL (tUp T n x) := by
  refine ⟨h.1, h.2.1, fun k hk => ?_⟩
  show ndL (tN T) k (tD (tUp T n x) k)
  by_cases z : k = n
  · subst z; rw [tD_up]; exact hx
  · rw [tD_ne z]; exact h.2.2 k hk
theorem WL.gr {T : TS} (h : WL T) : WL (tGr T) := h
theorem WL.new {T : TS} (h : WL T) : WL (tNew T).1 := by
  unfold tNew
  split
  · next z => exact ⟨h.1, z, h.2.2⟩
  · exact h
theorem WL.put {T : TS} {p n : Nat} (h : WL T) (hp : p < tN T) (hn : n < tN T) (hpn : p < n) (hq : ∀ q, (tD T p).2.1 5 = some q → q < n) : WL (tPut T p n) := by
  unfold tPut
  split
  · refine h.up ?_
    have h2 : ndL (tN T) p (xr (tD T p) 4 (some n)) := (h.2.2 p hp).lk (by decide) (fun z => by cases z) (fun _ m e => by cases e; exact ⟨hpn, hn⟩)
    exact h2.lk (by decide) (fun z => by cases z) (fun _ m e => by cases e; exact ⟨hpn, hn⟩)
  · next q e =>
    have hqn := hq q e
    have hqb := (h.2.2 p hp).2.2.2.1 q e
    have h1 : WL (tUp T q (xr (tD T q) 6 (some n))) := h.up ((h.2.2 q hqb.2).lk (by decide) (fun z => by cases z) (fun _ m e => by cases e; exact ⟨hqn, hn⟩))
    exact h1.up ((h1.2.2 p hp).lk (by decide) (fun z => by cases z) (fun _ m e => by cases e; exact ⟨hpn, hn⟩))
theorem WL.add {T : TS} {ab : Option Nat} {l : List Int32} {tl : Bool} (h : WL T) (ha : ∀ p, ab = some p → p < tN T) : WL (tAdd T ab l tl).1 := by
  unfold tAdd
  split
  · exact h
  · next z =>
    have h1 : WL (tOpen T ab l) := by
      refine ⟨by show T.1 + 1 ≤ 48; have : T.1 = tN T := rfl; omega, h.2.1, fun k hk => ?_⟩
      have hk' : k < tN T + 1 := hk
      show ndL (tN T + 1) k _
      by_cases e : k = tN T
      · subst e
        have : tD (tOpen T ab l) (tN T) = nOpen (tD T (tN T)) ab l := by
          show upN _ _ _ _ = _
          simp [upN, tN, tD]
        rw [this]
        exact ndL.opn (by omega) ha
      · rw [tOpen_ne e]
        exact (h.2.2 k (by omega)).mono (Nat.le_succ _)
    cases ab with
    | none => exact h1
    | some p =>
      have hp := ha p rfl
      refine h1.put (show p < tN T + 1 by omega) (show tN T < tN T + 1 by omega) hp (fun q e => ?_)
      rw [tOpen_ne (by omega)] at e
      exact ((h.2.2 p hp).2.2.2.1 q e).2
theorem WL.AW {T : TS} (h : WL T) : AW T := fun n hn m e => (h.2.2 n hn).2.1 m e
theorem WL.BW {T : TS} (h : WL T) : BW T := fun n hn m e => by
  rcases e with e | e
  · exact (h.2.2 n hn).2.2.1 m e
  · exact (h.2.2 n hn).2.2.2.2.1 m e
theorem WL.GW {T : TS} (h : WL T) : GW T := fun n hn m e => (h.2.2 n hn).2.2.2.2.2 m e
theorem tAdd_N {T : TS} {ab : Option Nat} {l : List Int32} {tl : Bool} : tN T ≤ tN (tAdd T ab l tl).1 := by
  unfold tAdd
  split
  · exact Nat.le_refl _
  · cases ab with
    | none => exact Nat.le_succ _
    | some q => show tN T ≤ tN (tPut _ _ _); rw [(tPut_o (k := 0)).2.2.2.1]; exact Nat.le_succ _
theorem WL.bld {P : Int32 → Int32} {n : Nat} {zs : List Int32} {tl : Bool} : ∀ {k pl : Nat} {T : TS}, WL T → n < tN T → WL (tBld P n zs tl k pl T)
  | 0, pl, T, h, hn => h
  | k + 1, pl, T, h, hn => WL.bld (k := k) (h.add (fun p e => by cases e; exact hn)) (Nat.lt_of_lt_of_le hn tAdd_N)
theorem WL.letL {P : Int32 → Int32} {n : Nat} {zs : List Int32} {tl : Bool} {st : Nat → Nat} : ∀ {f k : Nat} {T : TS}, WL T → n < tN T → WL (tLetL P n zs tl st f k T)
  | 0, k, T, h, hn => h
  | f + 1, k, T, h, hn => WL.letL (f := f) (h.add (fun p e => by cases e; exact hn)) (Nat.lt_of_lt_of_le hn tAdd_N)
theorem WL.lett {P : Int32 → Int32} {T : TS} {n : Nat} {S : GS} {st : Nat → Nat} (h : WL T) (hn : n < tN T) : WL (tLet P T n S st) := by
  unfold tLet
  have h1 : WL (tLet0 T n S) := h.up (by
    have h2 : ndL (tN T) n (nBecome (tD T n) 7 (nI (gC S))) := (h.2.2 n hn).become
    exact h2)
  have hn1 : n < tN (tLet0 T n S) := hn
  exact WL.letL (h1.add (fun p e => by cases e; exact hn1)) (Nat.lt_of_lt_of_le hn1 tAdd_N)
theorem WL.com {P : Int32 → Int32} {zu zl : List Int32} : ∀ {f i j : Nat} {S : GS} {T : TS}, WL T → WL (tCom P zu zl f i j S T).2
  | 0, i, j, S, T, h => h
  | f + 1, i, j, S, T, h => by
    unfold tCom
    split
    · split
      · exact WL.com h
      · split
        · exact WL.com h
        · exact WL.com h.new
    · exact h
theorem WL.apart {P : Int32 → Int32} {zs : List Int32} : ∀ {k pl : Nat} {S : GS} {T : TS}, WL T → WL (tApart P zs k pl S T).2
  | 0, pl, S, T, h => h
  | k + 1, pl, S, T, h => WL.apart (k := k) h.new
theorem WL.rm1 {T : TS} {top n : Nat} (h : WL T) (hn : n < tN T) : WL (tRm1 T top n) := by
  unfold tRm1
  split
  · exact h.up (h.2.2 n hn).become
  · exact h
theorem WL.rmL {top : Nat} : ∀ {k n : Nat} {T : TS}, WL T → n + k ≤ tN T → WL (tRmL top k n T)
  | 0, n, T, h, _ => h
  | k + 1, n, T, h, hn => WL.rmL (k := k) (h.rm1 (by omega)) (by rw [tRm1_N]; omega)
theorem WL.rm {T : TS} {top : Nat} (h : WL T) (ht : top < tN T) : WL (tRm T top) := by
  have h1 : WL (tRmL top (tN T - (top + 1)) (top + 1) T) := WL.rmL h (by omega)
  have e : tN (tRmL top (tN T - (top + 1)) (top + 1) T) = tN T := (tRmL_o (q := 0)).2
  unfold tRm
  exact h1.up ((h1.2.2 top (by rw [e]; exact ht)).drop)
theorem WL.gen {P : Int32 → Int32} {T : TS} {b a : Nat} {S : GS} (h : WL T) (hb : b < tN T) (ha : a < tN T) : WL (tGen P T b a S).2 := by
  unfold tGen
  split
  · split
    · exact (WL.com h).lett (by rw [tCom_o.2]; exact hb)
    · exact ((WL.com h).rm (by rw [tCom_o.2]; exact ha)).lett (by rw [(tRm_o (q := 0)).2, tCom_o.2]; exact ha)
  · exact (WL.apart h).lett (by rw [tApart_o.2]; exact hb)
theorem WL.nk : ∀ {k : Nat} {T : TS} {l : List Int32}, WL T → WL (tNK k T l).1
  | 0, T, l, h => h
  | k + 1, T, l, h => WL.nk (k := k) h.new
theorem WL.cls {pt : Nat → Int32} {cs : Nat → Bool} {bd : Nat → List Int32} {T : TS} {n a : Nat} {v : Int32} {c : Nat} (h : WL T) (hn : n < tN T) : WL (tCls pt cs bd T n a v c) := by
  unfold tCls
  have e : tN (aPat T c).1 = tN T := tNK_o.2.1
  have h1 : WL (aPat T c).1 := WL.nk h
  have h2 := h1.add (ab := some n) (l := (uL pt cs bd (aRep T n c v) a).take 40) (tl := decide (40 < (uL pt cs bd (aRep T n c v) a).length)) (fun p ep => by cases ep; rw [e]; exact hn)
  unfold tSet
  split
  · exact h2
  · next m em =>
    have hm : m < tN (tAdd (aPat T c).1 (some n) ((uL pt cs bd (aRep T n c v) a).take 40) (decide (40 < (uL pt cs bd (aRep T n c v) a).length))).1 := by
      unfold tAdd at em ⊢
      split at em
      · cases em
      · next z =>
        cases em
        rw [if_neg z]
        show _ < tN (tPut _ _ _)
        rw [(tPut_o (k := 0)).2.2.2.1]
        exact Nat.lt_succ_self _
    exact h2.up (h2.2.2 m hm)
theorem WL.spl {pt : Nat → Int32} {cs : Nat → Bool} {bd : Nat → List Int32} {n a : Nat} {v : Int32} : ∀ {f c : Nat} {T : TS}, WL T → n < tN T → WL (tSpL pt cs bd n a v f c T)
  | 0, c, T, h, hn => h
  | f + 1, c, T, h, hn => by
    unfold tSpL
    split
    · exact h
    · split
      · exact WL.spl (h.cls hn) (Nat.lt_of_lt_of_le hn (tCls_o (k := n) hn).2)
      · exact WL.spl h hn
theorem WL_stl {pt : Nat → Int32} {cs : Nat → Bool} {bd : Nat → List Int32} {T : TS} {n : Nat} {S : GS} (h : WL T) : WL (stl pt cs bd T n S).2 := by
  unfold stl
  split
  · next hc =>
    have hn := hc.1
    split
    · split
      · exact h
      · split
        · exact h.up (h.2.2 n hn).become
        · split
          · next u e =>
            have hu := renR_lt h.AW hn e
            refine h.up ?_
            have h2 : ndL (tN T) n (nBecome (tD T n) 6 (nI u)) := (h.2.2 n hn).become
            exact h2.lk (by decide) (fun _ m e => by cases e; exact hu.1) (fun z => absurd rfl z)
          · split
            · next u e => exact h.gen hn (embR_lt h.AW hn e).2
            · split
              · have h1 : WL (tUp T n (nBecome (tD T n) 3 (-1))) := h.up (h.2.2 n hn).become
                exact h1.add (fun p e => by cases e; exact hn)
              · have h1 : WL (tUp T n (nBecome (tD T n) 4 ((t40 T n).getD (‹Nat› + 1) (-1)))) := h.up (h.2.2 n hn).become
                exact WL.spl h1 hn
    · unfold tSwc
      split
      · exact h.up (h.2.2 n hn).become
      · exact WL.bld (h.up (h.2.2 n hn).become) hn
  · exact h
