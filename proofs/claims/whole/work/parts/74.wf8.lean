/-! pure: let, generalise, settle -/
theorem WF.letL {pt : Nat → Int32} {n b : Nat} {zs : List Int32} {st : Nat → Nat} {q : Nat} (hP : PB (sgP pt)) : ∀ {f k : Nat} {T : TS}, k + f = q → (∀ i, i < q → st i < zs.length) → WF pt T (some n) → n < tN T → Ch T n b (k + 1) → b + (k + 1) = tN T → kd T n = 7 → tmn T n = zs → (∀ i, 1 ≤ i → i < k + 1 → vsub (tmn T (b + i)) zs) → tG (tLetL (sgP pt) n zs false st f k T) = false →
    WF pt (tLetL (sgP pt) n zs false st f k T) (some n) ∧ Ch (tLetL (sgP pt) n zs false st f k T) n b (q + 1) ∧ tN T ≤ tN (tLetL (sgP pt) n zs false st f k T) ∧ (∀ i, 1 ≤ i → i < q + 1 → vsub (tmn (tLetL (sgP pt) n zs false st f k T) (b + i)) zs) ∧ ∀ m, m < tN T → (tD (tLetL (sgP pt) n zs false st f k T) m).1 = (tD T m).1 ∧ tmn (tLetL (sgP pt) n zs false st f k T) m = tmn T m
  | 0, k, T, hq, hst, hW, hn, hC, hb, h7, ht, hv, hg => by
    obtain rfl : k = q := by omega
    exact ⟨hW, hC, Nat.le_refl _, hv, fun _ _ => ⟨rfl, rfl⟩⟩
  | f + 1, k, T, hq, hst, hW, hn, hC, hb, h7, ht, hv, hg => by
    have hz : zs.length ≤ 40 := by have := (hW.1.2.2 n hn).1; rw [← ht]; exact this
    have hzs : tmq (nP (sgP pt)) (gA pt (tV T)) zs := by rw [← ht]; exact (hW.2.2 n hn).1.1
    have hg' : tG (tAdd T (some n) ((zs.take (behind (sgP pt) zs (st k))).drop (st k)) false).1 = false := nG (fun z => tLetL_G (f := f) (k := k + 1) z) hg
    obtain ⟨a1, a2, a3, a4, a5, a6, _⟩ := hW.add hn hC hb (by rw [h7]; decide) (seg1 hP (by omega) hzs (hst k (by omega))) hg'
    obtain ⟨i1, i2, i3, i4, i5⟩ := WF.letL hP (f := f) (k := k + 1) (st := st) (q := q) (by omega) hst a1 (by omega) a2 (by omega) (by unfold kd at h7 ⊢; rw [(a6 n hn).1]; exact h7) (by rw [(a6 n hn).2]; exact ht) (fun i h1 hi => by
      by_cases e : i = k + 1
      · rw [e, hb, a5]; exact seg_sub
      · rw [(a6 (b + i) (by omega)).2]
        exact hv i h1 (by omega)) hg
    exact ⟨i1, i2, by show tN T ≤ tN (tLetL (sgP pt) n zs false st f (k + 1) _); omega, i4, fun m hm => ⟨(i5 m (by omega)).1.trans (a6 m hm).1, (i5 m (by omega)).2.trans (a6 m hm).2⟩⟩
theorem WF_let {pt : Nat → Int32} {T : TS} {n V0 : Nat} {S : GS} {st : Nat → Nat} {zu zl : List Int32} (hP : PB (sgP pt)) (hW : WF pt T (some n)) (hn : n < tN T) (hC : Ch T n (tN T) 0) (hU : ∀ m, m < tN T → m ≠ n → kd T m = 6 → lkn T m 9 ≠ some n) (hI : CI (nP (sgP pt)) V0 zu zl 0 S T) (hzu : al (gA pt V0) zu) (hc : gC S ≤ 40) (hl : (gL S).length ≤ 40) (hz : zu = tmn T n ∨ zl = tmn T n) (hst : ∀ i, i < gC S → st i < (tmn T n).length) (hg : tG (tLet (sgP pt) T n S st) = false) :
    WF pt (tLet (sgP pt) T n S st) none ∧ tN T ≤ tN (tLet (sgP pt) T n S st) ∧ kd (tLet (sgP pt) T n S st) n = 7 ∧ ∀ m, m < tN T → m ≠ n → (tD (tLet (sgP pt) T n S st) m).1 = (tD T m).1 := by
  obtain ⟨c1, c2, c3, c4, c5⟩ := hI
  have hV := hW.1.2.1
  have ht40 : (ntm (tD T n)).length ≤ 40 := (hW.1.2.2 n hn).1
  have hx : ndW pt (tV T) (xi (nBecome (tD T n) 7 (nI (gC S))) 13 (gF S)) := by
    have hb := ndW_bec (k := 7) (v := nI (gC S)) (hW.2.2 n hn).1 ⟨7, by omega, rfl⟩ (fun z => by rcases z with z | z <;> exact absurd z (by decide)) (fun z => absurd z (by decide)) (fun z => absurd z (by decide)) (fun z => by rcases z with z | z | z | z | z <;> exact absurd z (by decide))
    exact hb
  have hxl : ndL (tN T) n (xi (nBecome (tD T n) 7 (nI (gC S))) 13 (gF S)) := by
    have z : ndL (tN T) n (nBecome (tD T n) 7 (nI (gC S))) := (hW.1.2.2 n hn).become
    exact z
  have hkd : kd (tLet0 T n S) n = 7 := by unfold kd tLet0; rw [tD_up]; rfl
  have h1 : WF pt (tLet0 T n S) (some n) := hW.set hn hx hxl rfl rfl rfl rfl rfl (fun z => by
    have : kd (tLet0 T n S) n = 6 := z
    rw [hkd] at this; exact absurd this (by decide)) hU
  have hC1 : Ch (tLet0 T n S) n (tN T) 0 := by
    refine ⟨hC.1, hC.2.1, ?_, ?_, fun i hi => absurd hi (Nat.not_lt_zero _)⟩
    · have := hC.2.2.1
      unfold lkn tLet0 at *
      rw [tD_up]
      exact this
    · have := hC.2.2.2.1
      unfold lkn tLet0 at *
      rw [tD_up]
      exact this
  have htm : tmn (tLet0 T n S) n = tmn T n := by show ntm _ = _; unfold tLet0; rw [tD_up]; rfl
  have hgl : tmq (nP (sgP pt)) (gA pt (tV T)) (gL S) := by
    refine ⟨by have := c1 [] rfl; rw [List.append_nil] at this; exact this, fun s hs => ?_⟩
    rcases c4 s hs with z | ⟨k, hk, e⟩
    · obtain ⟨k, g1, g2, g3⟩ := hzu s z.1
      refine ⟨k, g1, g2, ?_⟩
      unfold gA at g3 ⊢
      rcases g3 with g3 | g3 | g3
      · exact Or.inl ⟨by omega, g3.2⟩
      · exact Or.inr (Or.inl g3)
      · exact Or.inr (Or.inr g3)
    · exact ⟨V0 + k, by omega, e, Or.inl ⟨by omega, by omega⟩⟩
  unfold tLet at hg ⊢
  rw [List.take_of_length_le hl, List.take_of_length_le ht40, decide_eq_false (show ¬ 40 < (gL S).length by omega), decide_eq_false (show ¬ 40 < (ntm (tD T n)).length by omega)] at hg ⊢
  have hg1 := nG (fun z => tLetL_G (P := sgP pt) (n := n) (zs := ntm (tD T n)) (tl := false) (st := st) (f := gC S) (k := 0) z) hg
  obtain ⟨a1, a2, a3, a4, a5, a6, _⟩ := h1.add hn hC1 (show tN T + 0 = tN T from rfl) (by rw [hkd]; decide) hgl hg1
  generalize (tAdd (tLet0 T n S) (some n) (gL S) false).1 = T1 at *
  have a3' : tN T1 = tN T + 1 := a3
  have a5' : tmn T1 (tN T) = gL S := a5
  have hk1 : kd T1 n = 7 := by unfold kd at hkd ⊢; rw [(a6 n hn).1]; exact hkd
  obtain ⟨i1, i2, i3, i4, i5⟩ := WF.letL hP (f := gC S) (k := 0) (st := st) (q := gC S) (zs := ntm (tD T n)) (b := tN T) (by omega) hst a1 (by omega) a2 (by omega) hk1 (by rw [(a6 n hn).2]; exact htm) (fun i h1 hi => by omega) hg
  generalize tLetL (sgP pt) n (ntm (tD T n)) false st (gC S) 0 T1 = T2 at *
  have hn1 : n < tN T1 := by omega
  have hk2 : kd T2 n = 7 := by unfold kd at hk1 ⊢; rw [(i5 n hn1).1]; exact hk1
  have hd2 : ∀ j, (tD T2 n).1 j = (tD (tLet0 T n S) n).1 j := fun j => by rw [(i5 n hn1).1, (a6 n hn).1]
  have ht2 : tmn T2 n = tmn T n := by rw [(i5 n hn1).2, (a6 n hn).2, htm]
  refine ⟨i1.close (fun _ => ⟨_, _, i2, ?_, ?_, ?_, ?_⟩), by omega, hk2, fun m hm hmn => ?_⟩
  · intro z; rw [hk2] at z; exact absurd z (by decide)
  · intro z; rw [hk2] at z; exact absurd z (by decide)
  · intro z; rw [hk2] at z; exact absurd z (by decide)
  · intro _
    refine ⟨gC S, V0, ?_, rfl, fun hq => ?_, by omega, ?_, ?_⟩
    · unfold dt
      rw [hd2]
      unfold tLet0
      rw [tD_up]
      rfl
    · rw [hd2]
      unfold tLet0
      rw [tD_up]
      exact c3 hq
    · rw [(i5 (tN T) (by omega)).2, a5', ht2]
      intro s hs _
      rcases c4 s hs with z | z
      · rcases hz with y | y
        · exact Or.inl (y ▸ z.1)
        · exact Or.inl (y ▸ z.2)
      · exact Or.inr z
    · rw [ht2]
      exact i4
  · rw [(i5 m (by omega)).1, (a6 m hm).1]
    unfold tLet0
    rw [tD_ne hmn]
theorem tLet_G {P : Int32 → Int32} {T : TS} {n : Nat} {S : GS} {st : Nat → Nat} (h : tG T = true) : tG (tLet P T n S st) = true := by
  unfold tLet
  exact tLetL_G (tAdd_G (show tG (tLet0 T n S) = true from h))
theorem tRm_G {T : TS} {a : Nat} : tG (tRm T a) = tG T := by
  have : ∀ f n (T : TS), tG (tRmL a f n T) = tG T := fun f => by
    induction f with
    | zero => intro n T; rfl
    | succ f ih => intro n T; show tG (tRmL a f (n + 1) (tRm1 T a n)) = _; rw [ih]; unfold tRm1; split <;> rfl
  exact this _ _ _
theorem CI_0 {p : Int32 → Nat} {V0 : Nat} {zu zl : List Int32} {S : GS} {T : TS} (h : tV T = V0) : CI p V0 zu zl 1 (gZ S) T := by
  refine ⟨fun r hr => hr, by rw [h]; rfl, fun z => absurd z (Nat.lt_irrefl 0), fun s hs => absurd (show s ∈ ([] : List Int32) from hs) List.not_mem_nil, fun k hk => absurd hk (Nat.not_lt_zero _)⟩
theorem WF.com_o {pt : Nat → Int32} {P : Int32 → Int32} {zu zl : List Int32} {f i j : Nat} {S : GS} {T : TS} : ∀ k, tD (tCom P zu zl f i j S T).2 k = tD T k := fun k => by rw [tCom_o.1]
theorem PK_gen {pt : Nat → Int32} {cs : Nat → Bool} {T : TS} {b a : Nat} {S : GS} (hS : SW pt cs) (hW : WF pt T none) (hb : b < tN T) (ha : a < tN T) (h8 : kd T b = 8) (h34 : kd T a = 3 ∨ kd T a = 4) (hbel : isBel T b a = true) (hg : tG (tGen (sgP pt) T b a S).2 = false) : PK pt T (tGen (sgP pt) T b a S).2 b := by
  have hP := hS.ok.1
  have ea : (ntm (tD T a)).take 40 = tmn T a := hW.t40 ha
  have eb : (ntm (tD T b)).take 40 = tmn T b := hW.t40 hb
  have hla : (tmn T a).length ≤ 40 := (hW.1.2.2 a ha).1
  have hlb : (tmn T b).length ≤ 40 := (hW.1.2.2 b hb).1
  have hta := (hW.2.2 a ha).1.1
  have htb := (hW.2.2 b hb).1.1
  have hw45 := (hW.2.2 b hb).1.2.2.2.2.1 h8
  have hCb : ∀ T' : TS, tD T' = tD T → tN T' = tN T → Ch T' b (tN T') 0 := fun T' e1 e2 => by
    refine ⟨by omega, by omega, ?_, ?_, fun i hi => absurd hi (Nat.not_lt_zero _)⟩
    · unfold lkn; rw [e1]; exact hw45.1
    · unfold lkn; rw [e1]; exact hw45.2
  have fin : ∀ T' : TS, (∀ m, m < tN T → m ≠ b → (tD T' m).1 = (tD T m).1) → kd T' b = 7 → ∀ m, m < tN T → kd T' m = 8 → kd T m = 8 ∧ m ≠ b := fun T' h1 h2 m hm h => by
    by_cases e : m = b
    · subst e; rw [h2] at h; exact absurd h (by decide)
    · unfold kd at h ⊢
      rw [h1 m hm e] at h
      exact ⟨h, e⟩
  unfold tGen at hg ⊢
  rw [ea, eb] at hg ⊢
  by_cases h0 : (tmn T a).getD 0 (-1) = (tmn T b).getD 0 (-1)
  · rw [if_pos h0] at hg ⊢
    have hcg : tG (tCom (sgP pt) (tmn T a) (tmn T b) 40 0 0 (gZ S) T).2 = false := by
      by_cases z : renI ((gL (tCom (sgP pt) (tmn T a) (tmn T b) 40 0 0 (gZ S) T).1).take 40) (tmn T a) = true
      · rw [if_pos z] at hg
        exact nG (fun y => tLet_G y) hg
      · rw [if_neg z] at hg
        exact nG (fun y => tLet_G (by rw [tRm_G]; exact y)) hg
    obtain ⟨s1, s2, s3, s4⟩ := tCom_spec (h := none) (V0 := tV T) hS hla hlb (f := 40) (i := 0) (j := 0) (m := 1) (S := gZ S) (T := T) (by omega) (by omega) hta.1 htb.1 (Nat.le_refl _) (Nat.le_refl _) (CI_0 rfl) hW hcg
    have o := tCom_o (P := sgP pt) (zu := tmn T a) (zl := tmn T b) (f := 40) (i := 0) (j := 0) (S := gZ S) (T := T)
    generalize tCom (sgP pt) (tmn T a) (tmn T b) 40 0 0 (gZ S) T = R at *
    have ot : ∀ k, tmn R.2 k = tmn T k := fun k => by unfold tmn; rw [o.1]
    have ok : ∀ k, kd R.2 k = kd T k := fun k => by unfold kd; rw [o.1]
    by_cases z : renI ((gL R.1).take 40) (tmn T a) = true
    · rw [if_pos z] at hg ⊢
      obtain ⟨l1, l2, l3, l4⟩ := WF_let (n := b) (V0 := tV T) (S := R.1) (st := gD R.1) (zu := tmn T a) (zl := tmn T b) hP s1.hole (by rw [o.2]; exact hb) (hCb R.2 o.1 o.2) (fun m hm hmb h6 => s1.noU (by rw [ok]; exact h8) m hm hmb h6) s2 hta.2 s3 s4 (Or.inr (ot b).symm) (fun i hi => by rw [ot]; exact (s2.2.2.2.2 i hi).2) hg
      refine ⟨l1, by have := o.2; show tN T ≤ tN (tLet (sgP pt) R.2 b R.1 (gD R.1)); omega, fin _ (fun m hm hmb => ?_) l3⟩
      rw [l4 m (by rw [o.2]; exact hm) hmb, o.1]
    · rw [if_neg z] at hg ⊢
      obtain ⟨r1, r2, r3, r4, r5, r6, r7, r8, r9⟩ := s1.rm (a := a) (by rw [o.2]; exact ha) (by rw [ok]; exact h34)
      have s2' : CI (nP (sgP pt)) (tV T) (tmn T a) (tmn T b) 0 R.1 (tRm R.2 a) := ⟨s2.1, by rw [r3]; exact s2.2.1, s2.2.2⟩
      have hgN : Ch (tRm R.2 a) a (tN (tRm R.2 a)) 0 := by rw [r2]; exact r4
      obtain ⟨l1, l2, l3, l4⟩ := WF_let (n := a) (V0 := tV T) (S := R.1) (st := gU R.1) (zu := tmn T a) (zl := tmn T b) hP r1 (by rw [r2, o.2]; exact ha) hgN (fun m hm hmb h6 => r8 m (by omega) hmb h6) s2' hta.2 s3 s4 (Or.inl (by rw [r7, ot])) (fun i hi => by rw [r7, ot]; exact (s2.2.2.2.2 i hi).1) hg
      refine ⟨l1, by have := o.2; show tN T ≤ tN (tLet (sgP pt) (tRm R.2 a) a R.1 (gU R.1)); omega, fun m hm h => ?_⟩
      by_cases e : m = a
      · subst e; rw [l3] at h; exact absurd h (by decide)
      · have hm' : m < tN (tRm R.2 a) := by rw [r2, o.2]; exact hm
        have h' : kd (tRm R.2 a) m = 8 := by unfold kd at h ⊢; rw [← l4 m hm' e]; exact h
        have h9 := r9 m (by rw [o.2]; exact hm) h'
        rw [ok] at h9
        refine ⟨h9, fun ez => ?_⟩
        subst ez
        have hbel' : isBel R.2 m a = true := by
          rw [isBel_cg (N := tN T) (T := T) (fun k _ => by unfold lkn; rw [o.1]) (fun k hk j ej => hW.1.AW k hk j ej) hm]
          exact hbel
        have hd := tRm_d (T := R.2) (top := a) (k := m) s1.1.AW (by rw [o.2]; exact ha) (by rw [o.2]; exact hm)
        rw [if_neg e, if_pos hbel'] at hd
        unfold kd at h'
        rw [hd] at h'
        exact absurd (show (0 : Int32) = 8 from h') (by decide)
  · rw [if_neg h0] at hg ⊢
    have hlb0 : 0 < (tmn T b).length := full_ne htb.1
    obtain ⟨m', em, f1, _⟩ := full_step (l := tmn T b) (i := 0) (m := 1) htb.1 hlb0
    obtain rfl : m' = 0 := by omega
    rw [Nat.zero_add] at f1
    have hle := full_le f1
    rw [List.length_drop] at hle
    have hcg := nG (fun y => tLet_G y) hg
    have hCI : CI (nP (sgP pt)) (tV T) (tmn T b) (tmn T b) (nP (sgP pt) ((tmn T b).getD 0 (-1))) (gAdd (gZ S) ((tmn T b).getD 0 (-1))) T := by
      refine ⟨fun r hr => ?_, rfl, fun z => absurd z (Nat.lt_irrefl 0), fun s hs => ?_, fun k hk => absurd hk (Nat.not_lt_zero _)⟩
      · show full _ (0 + nP (sgP pt) ((tmn T b).getD 0 (-1))) r = true
        rw [Nat.zero_add]; exact hr
      · have : s = (tmn T b).getD 0 (-1) := List.mem_singleton.mp hs
        rw [this]
        exact Or.inl ⟨getD_mem hlb0, getD_mem hlb0⟩
    obtain ⟨s1, s2, s3, s4⟩ := tApart_spec (h := none) (V0 := tV T) hS hlb (k := nP (sgP pt) ((tmn T b).getD 0 (-1))) (pl := 1) (S := gAdd (gZ S) ((tmn T b).getD 0 (-1))) (T := T) f1 (by show 0 + _ ≤ 40; omega) (Nat.le_refl _) (Nat.le_refl _) hlb0 hCI hW hcg
    have o := tApart_o (P := sgP pt) (zs := tmn T b) (k := nP (sgP pt) ((tmn T b).getD 0 (-1))) (pl := 1) (S := gAdd (gZ S) ((tmn T b).getD 0 (-1))) (T := T)
    generalize tApart (sgP pt) (tmn T b) (nP (sgP pt) ((tmn T b).getD 0 (-1))) 1 (gAdd (gZ S) ((tmn T b).getD 0 (-1))) T = R at *
    have ot : ∀ k, tmn R.2 k = tmn T k := fun k => by unfold tmn; rw [o.1]
    have ok : ∀ k, kd R.2 k = kd T k := fun k => by unfold kd; rw [o.1]
    obtain ⟨l1, l2, l3, l4⟩ := WF_let (n := b) (V0 := tV T) (S := R.1) (st := gD R.1) (zu := tmn T b) (zl := tmn T b) hP s1.hole (by rw [o.2]; exact hb) (hCb R.2 o.1 o.2) (fun m hm hmb h6 => s1.noU (by rw [ok]; exact h8) m hm hmb h6) s2 htb.2 s3 s4 (Or.inr (ot b).symm) (fun i hi => by rw [ot]; exact (s2.2.2.2.2 i hi).2) hg
    refine ⟨l1, by have := o.2; show tN T ≤ tN (tLet (sgP pt) R.2 b R.1 (gD R.1)); omega, fin _ (fun m hm hmb => ?_) l3⟩
    rw [l4 m (by rw [o.2]; exact hm) hmb, o.1]
/-- the body's test that settle makes -/
def uF (cs : Nat → Bool) (bd : Nat → List Int32) (zs : List Int32) (a : Nat) : Bool := ufs cs (fun s x => (sB bd s x).map (fun i => 33 + 2 + 2 * i)) zs a
theorem sgC_len {cs : Nat → Bool} {zs : List Int32} {a : Nat} (h : isV (zs.getD (a + 1) (-1)) = true) : a + 1 < zs.length := by
  by_cases z : a + 1 < zs.length
  · exact z
  · rw [List.getD_eq_getElem?_getD, List.getElem?_eq_none (by omega)] at h
    exact absurd h (by decide)
theorem PK_stl {pt : Nat → Int32} {cs : Nat → Bool} {bd : Nat → List Int32} {T : TS} {n : Nat} {S : GS} (hS : SW pt cs) (hB : BdW pt cs bd) (hW : WF pt T none) (hn : n < tN T) (hg : tG (stl pt cs bd T n S).2 = false) : WF pt (stl pt cs bd T n S).2 none ∧ tN T ≤ tN (stl pt cs bd T n S).2 ∧ ∀ m, m < tN T → kd (stl pt cs bd T n S).2 m = 8 → kd T m = 8 ∧ m ≠ n := by
  unfold stl at hg ⊢
  by_cases h8 : kd T n = 8
  · rw [if_pos ⟨hn, h8, hW.2.1⟩] at hg ⊢
    rw [hW.t40 hn] at hg ⊢
    have htn := (hW.2.2 n hn).1.1
    by_cases hC : isC ((tmn T n).getD 0 (-1)) = true
    · rw [if_pos hC] at hg ⊢
      obtain ⟨a, ea⟩ := nxc_some (cs := sgC cs) hC
      have hpre := nxc_pre hC ea
      have hal := nxc_lt ea
      rw [ea] at hg
      rw [ea]
      simp only at hg ⊢
      by_cases hb : ufs cs (fun s x => (sB bd s x).map (fun i => 33 + 2 + 2 * i)) (tmn T n) a = false ∧ (sgC cs ((tmn T n).getD a (-1)) && isV ((tmn T n).getD (a + 1) (-1))) = false
      · rw [if_pos hb]
        exact PK_leaf hW hn h8 (Or.inr rfl)
      · rw [if_neg hb] at hg ⊢
        rcases hr : renR T (ufs cs (fun s x => (sB bd s x).map (fun i => 33 + 2 + 2 * i)) (tmn T n) a) n with _ | u
        · rw [hr] at hg
          simp only at hg ⊢
          rcases he : embR (sgP pt) T (ufs cs (fun s x => (sB bd s x).map (fun i => 33 + 2 + 2 * i)) (tmn T n) a) n with _ | u
          · rw [he] at hg
            simp only at hg ⊢
            by_cases hu : ufs cs (fun s x => (sB bd s x).map (fun i => 33 + 2 + 2 * i)) (tmn T n) a = true
            · rw [if_pos hu] at hg ⊢
              exact (PK_step hS hB hW hn h8 hC hal.1 hal.2 hu hg).1
            · rw [if_neg hu] at hg ⊢
              have hcv : (sgC cs ((tmn T n).getD a (-1)) && isV ((tmn T n).getD (a + 1) (-1))) = true := by
                cases z : (sgC cs ((tmn T n).getD a (-1)) && isV ((tmn T n).getD (a + 1) (-1))) with
                | true => rfl
                | false => exact absurd ⟨Bool.eq_false_iff.mpr hu, z⟩ hb
              have hcv := Bool.and_eq_true_iff.mp hcv
              exact PK_split hS hB hW hn h8 hpre (sgC_len (cs := cs) hcv.2) hcv.2 hcv.1 hg
          · rw [he] at hg
            simp only at hg ⊢
            obtain ⟨⟨e1, e2, e3⟩, e4⟩ := riv_spec hW.1.AW hn he
            refine PK_gen hS hW hn e3 h8 ?_ e2 hg
            rw [e1]
            cases ufs cs (fun s x => (sB bd s x).map (fun i => 33 + 2 + 2 * i)) (tmn T n) a
            · exact Or.inr rfl
            · exact Or.inl rfl
        · exact PK_fold hW hn h8 hr
    · rw [if_neg hC] at hg ⊢
      unfold tSwc at hg ⊢
      rw [hW.t40 hn] at hg ⊢
      by_cases h0 : nP (sgP pt) ((tmn T n).getD 0 (-1)) = 0
      · rw [if_pos h0]
        exact PK_leaf hW hn h8 (Or.inl rfl)
      · rw [if_neg h0] at hg ⊢
        rw [decide_eq_false (show ¬ 40 < (ntm (tD T n)).length by have := (hW.1.2.2 n hn).1; omega)] at hg ⊢
        exact PK_build hS.ok.1 hW hn h8 hg
  · rw [if_neg (fun z => h8 z.2.1)] at hg ⊢
    exact ⟨hW, Nat.le_refl _, fun m hm h => ⟨h, fun e => h8 (e ▸ h)⟩⟩
/-- the invariant of the drive's loop -/
def DJ (pt : Nat → Int32) (n : Nat) (_ : GS) (T : TS) : Prop := WL T ∧ (tG T = false → WF pt T none ∧ ∀ m, m < n → m < tN T → kd T m ≠ 8)
theorem stl_G {pt : Nat → Int32} {cs : Nat → Bool} {bd : Nat → List Int32} {T : TS} {n : Nat} {S : GS} (h : tG T = true) : stl pt cs bd T n S = (S, T) := by
  unfold stl
  rw [if_neg (fun z => by rw [z.2.2] at h; cases h)]
theorem DJ_step {pt : Nat → Int32} {cs : Nat → Bool} {bd : Nat → List Int32} (hS : SW pt cs) (hB : BdW pt cs bd) (n : Nat) (S : GS) (T : TS) (h : DJ pt n S T) (hn : n < tN T) : DJ pt (n + 1) (stl pt cs bd T n S).1 (stl pt cs bd T n S).2 := by
  refine ⟨WL_stl h.1, fun hg => ?_⟩
  have hg0 : tG T = false := nG (fun z => by rw [stl_G z]; exact z) hg
  obtain ⟨h1, h2⟩ := h.2 hg0
  obtain ⟨p1, p2, p3⟩ := PK_stl hS hB h1 hn hg
  refine ⟨p1, fun m hm hmT h8 => ?_⟩
  have hmt : m < tN T := by omega
  obtain ⟨q1, q2⟩ := p3 m hmt h8
  exact h2 m (by omega) hmt q1
theorem DJ_use {pt : Nat → Int32} {n : Nat} {S : GS} {T : TS} (h : DJ pt n S T) : AW T ∧ (tG T = false → TF (sgP pt) T ∧ BW T ∧ GW T) :=
  ⟨h.1.AW, fun hg => ⟨fun k hk => by rw [(h.2 hg).1.t40 hk]; exact ((h.2 hg).1.2.2 k hk).1.1.1, h.1.BW, h.1.GW⟩⟩
theorem WL_clr {T : TS} : WL (tClr T) := ⟨by show 0 ≤ 48; omega, by show 8 ≤ 100; omega, fun n hn => absurd hn (Nat.not_lt_zero _)⟩
theorem DJ_0 {pt : Nat → Int32} {T : TS} {l : List Int32} {S : GS} (hl : l ≠ [] → tmq (nP (sgP pt)) (gA pt 8) l) (hne : l ≠ []) : DJ pt 0 S (tAdd (tClr T) none l false).1 := by
  refine ⟨WL_clr.add (fun p e => by cases e), fun hg => ⟨⟨WL_clr.add (fun p e => by cases e), hg, fun n hn => ?_⟩, fun m hm => absurd hm (Nat.not_lt_zero _)⟩⟩
  obtain ⟨h1, h2, h3, h4, h5⟩ := tAdd_ok hg
  rw [h5] at hn ⊢
  have hn1 : n < 1 := hn
  obtain rfl : n = 0 := by omega
  have e : tD (tLnk (tOpen (tClr T) none l) none (tN (tClr T))) 0 = nOpen (tD (tClr T) 0) none l := tOpen_eq (T := tClr T)
  have hkd : kd (tLnk (tOpen (tClr T) none l) none (tN (tClr T))) 0 = 8 := by unfold kd; rw [e]; rfl
  refine ⟨?_, ?_, ?_⟩
  · rw [e]
    refine ⟨hl hne, ⟨8, by omega, rfl⟩, rfl, rfl, fun _ => ⟨rfl, rfl⟩, fun _ => rfl, ?_, ?_, ?_, ?_⟩
    · intro z; rcases z with z | z <;> exact absurd (show (8 : Int32) = _ from z) (by decide)
    · intro z; exact absurd (show (8 : Int32) = _ from z) (by decide)
    · intro z; exact absurd (show (8 : Int32) = _ from z) (by decide)
    · intro _; rfl
  · intro z; rw [hkd] at z; exact absurd z (by decide)
  · intro _ z
    rw [hkd] at z
    exact absurd z (by decide)
