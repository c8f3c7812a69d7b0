/-! pure: leaf, blocked, fold, build, step -/
def PK (pt : Nat → Int32) (T T' : TS) (n : Nat) : Prop := WF pt T' none ∧ tN T ≤ tN T' ∧ ∀ m, m < tN T → kd T' m = 8 → kd T m = 8 ∧ m ≠ n
theorem tAdd_G {T : TS} {ab : Option Nat} {l : List Int32} {tl : Bool} (h : tG T = true) : tG (tAdd T ab l tl).1 = true := by
  cases e : tG (tAdd T ab l tl).1 with
  | true => rfl
  | false => rw [(tAdd_ok e).2.2.2.1] at h; cases h
theorem tNew_G {T : TS} (h : tG T = true) : tG (tNew T).1 = true := by
  unfold tNew
  split
  · exact h
  · rfl
theorem tNK_G : ∀ {k : Nat} {T : TS} {l : List Int32}, tG T = true → tG (tNK k T l).1 = true
  | 0, T, l, h => h
  | k + 1, T, l, h => tNK_G (k := k) (tNew_G h)
theorem tBld_G {P : Int32 → Int32} {n : Nat} {zs : List Int32} {tl : Bool} : ∀ {k pl : Nat} {T : TS}, tG T = true → tG (tBld P n zs tl k pl T) = true
  | 0, _, _, h => h
  | k + 1, _, _, h => tBld_G (k := k) (tAdd_G h)
theorem tLetL_G {P : Int32 → Int32} {n : Nat} {zs : List Int32} {tl : Bool} {st : Nat → Nat} : ∀ {f k : Nat} {T : TS}, tG T = true → tG (tLetL P n zs tl st f k T) = true
  | 0, _, _, h => h
  | f + 1, _, _, h => tLetL_G (f := f) (tAdd_G h)
theorem tCom_G {P : Int32 → Int32} {zu zl : List Int32} : ∀ {f i j : Nat} {S : GS} {T : TS}, tG T = true → tG (tCom P zu zl f i j S T).2 = true
  | 0, _, _, _, _, h => h
  | f + 1, i, j, S, T, h => by
    unfold tCom
    split
    · split
      · exact tCom_G h
      · split
        · exact tCom_G h
        · exact tCom_G (tNew_G h)
    · exact h
theorem tApart_G {P : Int32 → Int32} {zs : List Int32} : ∀ {k pl : Nat} {S : GS} {T : TS}, tG T = true → tG (tApart P zs k pl S T).2 = true
  | 0, _, _, _, h => h
  | k + 1, _, _, _, h => tApart_G (k := k) (tNew_G h)
theorem nG {T T' : TS} (hm : tG T = true → tG T' = true) (h : tG T' = false) : tG T = false := by
  cases e : tG T with
  | false => rfl
  | true => rw [hm e] at h; cases h
theorem WF.t40 {pt : Nat → Int32} {T : TS} {h : Option Nat} {n : Nat} (hW : WF pt T h) (hn : n < tN T) : t40 T n = tmn T n := List.take_of_length_le (hW.1.2.2 n hn).1
theorem WF.bec {pt : Nat → Int32} {T : TS} {n : Nat} {k v : Int32} (hW : WF pt T none) (hn : n < tN T) (h8 : kd T n = 8) (hk : ∃ j, j ≤ 7 ∧ k = nI j) (h6 : k ≠ 6) (hC : k = 3 ∨ k = 4 → isC ((tmn T n).getD 0 (-1)) = true) (h4 : k = 4 → ∃ w, w < 100 ∧ v = nI w ∧ nI w ∈ tmn T n) (h2 : k = 2 → v = (tmn T n).getD 0 (-1) - 100) (h0 : k = 0 ∨ k = 1 ∨ k = 3 ∨ k = 5 ∨ k = 8 → v = -1) :
    WF pt (tUp T n (nBecome (tD T n) k v)) (some n) ∧ Ch (tUp T n (nBecome (tD T n) k v)) n (tN T) 0 := by
  have hw := hW.2.2 n hn
  have hb := ndW_bec hw.1 hk hC h4 h2 h0
  have h45 := hw.1.2.2.2.2.1 h8
  refine ⟨hW.hole.set hn hb (hW.1.2.2 n hn).become rfl rfl rfl rfl rfl ?_ (hW.noU h8), hn, Nat.le_refl _, ?_, ?_, fun i hi => absurd hi (Nat.not_lt_zero _)⟩
  · intro z
    unfold kd at z
    rw [tD_up] at z
    exact absurd z h6
  · unfold lkn
    rw [tD_up]
    exact h45.1
  · unfold lkn
    rw [tD_up]
    exact h45.2
theorem PK.up {pt : Nat → Int32} {T : TS} {n : Nat} {x : ND} (hW : WF pt (tUp T n x) none) (hx : x.1 7 ≠ 8) : PK pt T (tUp T n x) n := by
  refine ⟨hW, Nat.le_refl _, fun m hm h8 => ?_⟩
  unfold kd at h8 ⊢
  by_cases e : m = n
  · subst e
    rw [tD_up] at h8
    exact absurd h8 hx
  · rw [tD_ne e] at h8
    exact ⟨h8, e⟩
theorem PK_leaf {pt : Nat → Int32} {T : TS} {n : Nat} {k : Int32} (hW : WF pt T none) (hn : n < tN T) (h8 : kd T n = 8) (hk : k = 1 ∨ k = 5) : PK pt T (tUp T n (nBecome (tD T n) k (-1))) n := by
  have key : ∀ j : Int32, (k = 1 ∨ k = 5) → j ≠ 1 → j ≠ 5 → k ≠ j := fun j h a b z => by
    rcases h with h | h
    · exact a (z ▸ h)
    · exact b (z ▸ h)
  have kj : ∀ j : Int32, j ≠ 1 → j ≠ 5 → k ≠ j := fun j => key j hk
  obtain ⟨h1, _⟩ := hW.bec hn h8 (k := k) (v := -1) (by rcases hk with h | h; exact ⟨1, by omega, h⟩; exact ⟨5, by omega, h⟩) (kj 6 (by decide) (by decide)) (fun z => by rcases z with z | z; exact absurd z (kj 3 (by decide) (by decide)); exact absurd z (kj 4 (by decide) (by decide))) (fun z => absurd z (kj 4 (by decide) (by decide))) (fun z => absurd z (kj 2 (by decide) (by decide))) (fun _ => rfl)
  refine PK.up (h1.close (fun z => ?_)) (kj 8 (by decide) (by decide))
  unfold kd at z
  rw [tD_up] at z
  rcases z with z | z | z | z
  · exact absurd z (kj 2 (by decide) (by decide))
  · exact absurd z (kj 3 (by decide) (by decide))
  · exact absurd z (kj 4 (by decide) (by decide))
  · exact absurd z (kj 7 (by decide) (by decide))
theorem nRiv_spec {T : TS} {st : Bool} : ∀ {f : Nat} {o : Option Nat} {r : Nat}, nRiv T st f o = some r → kd T r = kdR st ∧ tBel T r f o = true
  | 0, _, _, h => by cases h
  | f + 1, none, _, h => by cases h
  | f + 1, some u, r, h => by
    unfold nRiv at h
    unfold tBel
    split at h
    · next e =>
      cases h
      exact ⟨e, by rw [if_pos rfl]⟩
    · split at h
      · cases h
      · have ih := nRiv_spec h
        refine ⟨ih.1, ?_⟩
        split
        · rfl
        · exact ih.2
theorem rRiv_spec {T : TS} {st : Bool} {t : Nat → Bool} {Pr : Nat → Prop} (hp : ∀ u v, Pr u → nxR T st u = some v → Pr v) : ∀ {f : Nat} {o : Option Nat} {r : Nat}, (∀ u, o = some u → Pr u) → rRiv T st t f o = some r → Pr r ∧ t r = true
  | 0, _, _, _, h => by cases h
  | f + 1, none, _, _, h => by cases h
  | f + 1, some u, r, ho, h => by
    unfold rRiv at h
    split at h
    · next e =>
      cases h
      exact ⟨ho _ rfl, e⟩
    · exact rRiv_spec hp (fun v hv => hp u v (ho u rfl) hv) h
theorem riv_spec {T : TS} {st : Bool} {t : Nat → Bool} {n r f : Nat} (hA : AW T) (hn : n < tN T) (h : rRiv T st t f (nxR T st n) = some r) : (kd T r = kdR st ∧ isBel T n r = true ∧ r < tN T) ∧ t r = true := by
  refine rRiv_spec (Pr := fun u => kd T u = kdR st ∧ isBel T n u = true ∧ u < tN T) (fun u v hu hv => ?_) (fun u hu => ?_) h
  · have := nRiv_spec hv
    have hl := nxR_lt hA hu.2.2 hv
    exact ⟨this.1, isBel_tr hA hn hu.2.1 this.2, hl.2⟩
  · have := nRiv_spec hu
    have hl := nxR_lt hA hn hu
    exact ⟨this.1, this.2, hl.2⟩
theorem PK_fold {pt : Nat → Int32} {T : TS} {n u : Nat} {st : Bool} (hW : WF pt T none) (hn : n < tN T) (h8 : kd T n = 8) (h : renR T st n = some u) : PK pt T (tUp T n (xr (nBecome (tD T n) 6 (nI u)) 9 (some u))) n := by
  obtain ⟨⟨h1, h2, h3⟩, h4⟩ := riv_spec hW.1.AW hn h
  have hu := isBel_lt hW.1.AW hn h2
  have hw := hW.2.2 n hn
  obtain ⟨x1, x2, x3, x4, x5, x6, x7, x8, x9, x10⟩ := hw.1
  have h45 := x5 h8
  have hxl : ndL (tN T) n (xr (nBecome (tD T n) 6 (nI u)) 9 (some u)) := by
    have z : ndL (tN T) n (nBecome (tD T n) 6 (nI u)) := (hW.1.2.2 n hn).become
    exact z.lk (by decide) (fun _ m e => by cases e; exact hu) (fun z => absurd rfl z)
  have hne : ∀ j : Int32, j ≠ 6 → (xr (nBecome (tD T n) 6 (nI u)) 9 (some u)).1 7 ≠ j := fun j hj z => hj (show (6 : Int32) = j from z).symm
  have hx : ndW pt (tV T) (xr (nBecome (tD T n) 6 (nI u)) 9 (some u)) := by
    refine ⟨x1, ⟨6, by omega, rfl⟩, rfl, x4, fun z => absurd z (hne 8 (by decide)), fun z => absurd rfl z, fun z => ?_, fun z => absurd z (hne 4 (by decide)), fun z => absurd z (hne 2 (by decide)), fun z => ?_⟩
    · rcases z with z | z
      · exact absurd z (hne 3 (by decide))
      · exact absurd z (hne 4 (by decide))
    · rcases z with z | z | z | z | z
      · exact absurd z (hne 0 (by decide))
      · exact absurd z (hne 1 (by decide))
      · exact absurd z (hne 3 (by decide))
      · exact absurd z (hne 5 (by decide))
      · exact absurd z (hne 8 (by decide))
  have hFO : FO (tUp T n (xr (nBecome (tD T n) 6 (nI u)) 9 (some u))) n := by
    intro _
    have hun : u ≠ n := by omega
    refine ⟨u, by unfold lkn; rw [tD_up]; rfl, by unfold dt; rw [tD_up]; rfl, ?_, ?_, ?_⟩
    · unfold kd at h1 ⊢
      rw [tD_ne hun, h1]
      cases st
      · exact Or.inr rfl
      · exact Or.inl rfl
    · have e : tmn (tUp T n (xr (nBecome (tD T n) 6 (nI u)) 9 (some u))) n = tmn T n := by unfold tmn; rw [tD_up]; rfl
      have e2 : tmn (tUp T n (xr (nBecome (tD T n) 6 (nI u)) 9 (some u))) u = tmn T u := by unfold tmn; rw [tD_ne hun]
      rw [e, e2, ← hW.t40 hn, ← hW.t40 h3]
      exact h4
    · rw [isBel_cg (N := tN T) (fun k _ => ?_) (fun k hk m e => hW.1.AW k hk m e) hn]
      · exact h2
      · unfold lkn
        by_cases e : k = n
        · subst e; rw [tD_up]; rfl
        · rw [tD_ne e]
  have hs := hW.hole.set hn hx hxl rfl rfl rfl rfl rfl hFO (hW.noU h8)
  refine PK.up (hs.close (fun z => ?_)) (hne 8 (by decide))
  unfold kd at z
  rw [tD_up] at z
  rcases z with z | z | z | z
  · exact absurd z (hne 2 (by decide))
  · exact absurd z (hne 3 (by decide))
  · exact absurd z (hne 4 (by decide))
  · exact absurd z (hne 7 (by decide))
theorem seg1 {P : Int32 → Int32} {A : Nat → Prop} {zs : List Int32} {pl : Nat} (hP : PB P) (hz : zs.length ≤ 10000) (h : tmq (nP P) A zs) (hl : pl < zs.length) : tmq (nP P) A ((zs.take (behind P zs pl)).drop pl) := by
  refine ⟨?_, (h.2.take _).drop _⟩
  rw [behind_tk hP hz, List.drop_take, show pl + tk (nP P) 1 (zs.drop pl) - pl = tk (nP P) 1 (zs.drop pl) by omega]
  exact full_seg h.1 hl
theorem seg_sub {l : List Int32} {i j : Nat} : vsub ((l.take i).drop j) l := fun s hs _ => List.mem_of_mem_take (List.mem_of_mem_drop hs)
theorem WF.bld {pt : Nat → Int32} {n b : Nat} {zs : List Int32} (hP : PB (sgP pt)) : ∀ {k pl c : Nat} {T : TS}, WF pt T (some n) → n < tN T → Ch T n b c → b + c = tN T → kd T n = 2 → tmn T n = zs → full (nP (sgP pt)) k (zs.drop pl) = true → (∀ i, i < c → vsub (tmn T (b + i)) zs) → tG (tBld (sgP pt) n zs false k pl T) = false →
    WF pt (tBld (sgP pt) n zs false k pl T) (some n) ∧ Ch (tBld (sgP pt) n zs false k pl T) n b (c + k) ∧ tN T ≤ tN (tBld (sgP pt) n zs false k pl T) ∧ tmn (tBld (sgP pt) n zs false k pl T) n = zs ∧ (∀ i, i < c + k → vsub (tmn (tBld (sgP pt) n zs false k pl T) (b + i)) zs) ∧ ∀ m, m < tN T → (tD (tBld (sgP pt) n zs false k pl T) m).1 = (tD T m).1
  | 0, pl, c, T, hW, hn, hC, hb, h2, ht, hf, hv, hg => ⟨hW, hC, Nat.le_refl _, ht, hv, fun _ _ => rfl⟩
  | k + 1, pl, c, T, hW, hn, hC, hb, h2, ht, hf, hv, hg => by
    have hz : zs.length ≤ 10000 := by have := (hW.1.2.2 n hn).1; rw [← ht]; unfold tmn; omega
    have hpl : pl < zs.length := by have := full_ne hf; rw [List.length_drop] at this; omega
    have hzs : tmq (nP (sgP pt)) (gA pt (tV T)) zs := by rw [← ht]; exact (hW.2.2 n hn).1.1
    have hg' : tG (tAdd T (some n) ((zs.take (behind (sgP pt) zs pl)).drop pl) false).1 = false := nG (fun z => tBld_G (k := k) (pl := behind (sgP pt) zs pl) (zs := zs) z) hg
    obtain ⟨a1, a2, a3, a4, a5, a6, _⟩ := hW.add hn hC hb (by rw [h2]; decide) (seg1 hP hz hzs hpl) hg'
    have hf' : full (nP (sgP pt)) k (zs.drop (behind (sgP pt) zs pl)) = true := by
      have := (full_tk (zs.drop pl) 1 k (by rw [Nat.add_comm 1 k]; exact hf)).2
      rw [behind_tk hP hz, ← List.drop_drop]
      exact this
    have ih := WF.bld hP (k := k) (pl := behind (sgP pt) zs pl) (c := c + 1) a1 (by omega) a2 (by omega) (by unfold kd; rw [(a6 n hn).1]; exact h2) (by rw [(a6 n hn).2]; exact ht) hf' (fun i hi => by
      by_cases e : i = c
      · rw [e, hb, a5]; exact seg_sub
      · have := hv i (by omega)
        rw [(a6 (b + i) (by omega)).2]
        exact this) hg
    refine ⟨ih.1, by rw [show c + (k + 1) = c + 1 + k by omega]; exact ih.2.1, by have := ih.2.2.1; rw [a3] at this; show tN T ≤ tN (tBld (sgP pt) n zs false k (behind (sgP pt) zs pl) (tAdd T (some n) ((zs.take (behind (sgP pt) zs pl)).drop pl) false).1); omega, ih.2.2.2.1, fun i hi => ih.2.2.2.2.1 i (by omega), fun m hm => (ih.2.2.2.2.2 m (by omega)).trans (a6 m hm).1⟩
theorem PK_build {pt : Nat → Int32} {T : TS} {n : Nat} (hP : PB (sgP pt)) (hW : WF pt T none) (hn : n < tN T) (h8 : kd T n = 8) (hg : tG (tBld (sgP pt) n (tmn T n) false (nP (sgP pt) ((tmn T n).getD 0 (-1))) 1 (tUp T n (nBecome (tD T n) 2 ((tmn T n).getD 0 (-1) - 100)))) = false) : PK pt T (tBld (sgP pt) n (tmn T n) false (nP (sgP pt) ((tmn T n).getD 0 (-1))) 1 (tUp T n (nBecome (tD T n) 2 ((tmn T n).getD 0 (-1) - 100)))) n := by
  obtain ⟨h1, h2⟩ := hW.bec hn h8 (k := 2) (v := (tmn T n).getD 0 (-1) - 100) ⟨2, by omega, rfl⟩ (by decide) (fun z => by rcases z with z | z <;> exact absurd z (by decide)) (fun z => absurd z (by decide)) (fun _ => rfl) (fun z => by rcases z with z | z | z | z | z <;> exact absurd z (by decide))
  have hfz := (hW.2.2 n hn).1.1.1
  have hl := full_ne hfz
  have hfull : full (nP (sgP pt)) (nP (sgP pt) ((tmn T n).getD 0 (-1))) ((tmn T n).drop 1) = true := by
    have e := drop_cons hl
    rw [List.drop_zero] at e
    unfold tmn
    rw [e] at hfz
    have : full (nP (sgP pt)) (0 + nP (sgP pt) ((ntm (tD T n)).getD 0 (-1))) ((ntm (tD T n)).drop 1) = true := hfz
    rw [Nat.zero_add] at this
    exact this
  have hkd : kd (tUp T n (nBecome (tD T n) 2 ((tmn T n).getD 0 (-1) - 100))) n = 2 := by unfold kd; rw [tD_up]; rfl
  have htm : tmn (tUp T n (nBecome (tD T n) 2 ((tmn T n).getD 0 (-1) - 100))) n = tmn T n := by
    show ntm _ = _
    rw [tD_up]; rfl
  obtain ⟨r1, r2, r3, r4, r5, r6⟩ := WF.bld hP h1 hn h2 (show tN T + 0 = tN T from rfl) hkd htm hfull (fun i hi => absurd hi (Nat.not_lt_zero _)) hg
  generalize tBld (sgP pt) n (tmn T n) false (nP (sgP pt) ((tmn T n).getD 0 (-1))) 1 (tUp T n (nBecome (tD T n) 2 ((tmn T n).getD 0 (-1) - 100))) = T' at *
  have hk' : kd T' n = 2 := by unfold kd at hkd ⊢; rw [r6 n hn]; exact hkd
  refine ⟨r1.close (fun _ => ⟨_, _, r2, ?_, ?_, ?_, ?_⟩), r3, fun m hm hm8 => ?_⟩
  · intro _
    rw [r4]
    exact ⟨Nat.zero_add _, r5⟩
  · intro z; rw [hk'] at z; exact absurd z (by decide)
  · intro z; rw [hk'] at z; exact absurd z (by decide)
  · intro z; rw [hk'] at z; exact absurd z (by decide)
  · by_cases e : m = n
    · subst e; rw [hk'] at hm8; exact absurd hm8 (by decide)
    · unfold kd at hm8 ⊢
      rw [r6 m hm, tD_ne e] at hm8
      exact ⟨hm8, e⟩
