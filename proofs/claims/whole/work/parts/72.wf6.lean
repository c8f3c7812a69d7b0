/-! pure: split -/
theorem xi_o {x : ND} {j k : Nat} {v : Int32} (h : k ≠ j) : (xi x j v).1 k = x.1 k := by simp [xi, upN, h]
theorem WF.mark {pt : Nat → Int32} {T : TS} {n m b c : Nat} {v w : Int32} (hW : WF pt T (some n)) (hm : m < tN T) (hmn : m ≠ n) (h3 : lkn T m 3 = some n) (hC : Ch T n b c) : WF pt (tUp T m (xi (xi (tD T m) 11 v) 12 w)) (some n) ∧ Ch (tUp T m (xi (xi (tD T m) 11 v) 12 w)) n b c ∧ (∀ k, tmn (tUp T m (xi (xi (tD T m) 11 v) 12 w)) k = tmn T k) ∧ (∀ k, kd (tUp T m (xi (xi (tD T m) 11 v) 12 w)) k = kd T k) ∧ (∀ k, dt (tUp T m (xi (xi (tD T m) 11 v) 12 w)) k = dt T k) ∧ (∀ k, k ≠ m → tD (tUp T m (xi (xi (tD T m) 11 v) 12 w)) k = tD T k) ∧ (tD (tUp T m (xi (xi (tD T m) 11 v) 12 w)) m).1 11 = v ∧ (tD (tUp T m (xi (xi (tD T m) 11 v) 12 w)) m).1 12 = w := by
  have e2 : ∀ k, (tD (tUp T m (xi (xi (tD T m) 11 v) 12 w)) k).2 = (tD T k).2 := fun k => by
    by_cases z : k = m
    · subst z; rw [tD_up]; rfl
    · rw [tD_ne z]
  have e1 : ∀ k j, j ≠ 11 → j ≠ 12 → (tD (tUp T m (xi (xi (tD T m) 11 v) 12 w)) k).1 j = (tD T k).1 j := fun k j ha hb => by
    by_cases z : k = m
    · subst z; rw [tD_up, xi_o hb, xi_o ha]
    · rw [tD_ne z]
  have el : ∀ k j, lkn (tUp T m (xi (xi (tD T m) 11 v) 12 w)) k j = lkn T k j := fun k j => by unfold lkn; rw [e2]
  have et : ∀ k, tmn (tUp T m (xi (xi (tD T m) 11 v) 12 w)) k = tmn T k := fun k => by unfold tmn ntm; rw [e2]
  refine ⟨⟨hW.1.up (hW.1.2.2 m hm), hW.2.1, fun k hk => ?_⟩, ⟨hC.1, hC.2.1, by rw [el]; exact hC.2.2.1, by rw [el]; exact hC.2.2.2.1, fun i hi => by rw [el, el]; exact hC.2.2.2.2 i hi⟩, et, fun k => e1 k 7 (by decide) (by decide), fun k => e1 k 8 (by decide) (by decide), fun k hk => tD_ne hk, ?_, ?_⟩
  · have hk' : k < tN T := hk
    show ndW pt (tV T) _ ∧ _
    obtain ⟨w1, w2, w3⟩ := hW.2.2 k hk'
    refine ⟨?_, w2.tr hW.1.AW hk' (e1 k 7 (by decide) (by decide)) (e1 k 8 (by decide) (by decide)) (el k 9) (fun j _ => et j) (fun j _ => el j 3) (fun u _ _ z => ?_), fun hh => ?_⟩
    · unfold ndW ntm nrs
      rw [e2, e1 k 7 (by decide) (by decide), e1 k 8 (by decide) (by decide), e1 k 10 (by decide) (by decide)]
      exact w1
    · unfold kd at z ⊢
      rw [e1 u 7 (by decide) (by decide)]
      exact z
    · refine (w3 hh).tr hk' (e1 k 7 (by decide) (by decide)) (e1 k 8 (by decide) (by decide)) (e1 k 13 (by decide) (by decide)) (el k 4) (el k 5) (fun j _ => et j) (fun j hj hj3 => ⟨el j 3, el j 6, ?_⟩) (Nat.le_refl _)
      have : j ≠ m := fun z => by
        rw [z, h3] at hj3
        exact hh (by rw [Option.some.inj hj3])
      rw [tD_ne this]
      exact ⟨rfl, rfl⟩
  · rw [tD_up, xi_o (by decide)]
    simp [xi, upN]
  · rw [tD_up]
    simp [xi, upN]
def EV4 (T : TS) (n b i : Nat) : Prop := ∃ cl w, cl < 6 ∧ (tD T (b + i)).1 11 = nI cl ∧ (0 < qK cl → (tD T (b + i)).1 12 = nI w) ∧ w + qK cl ≤ 100 ∧ ∀ s ∈ tmn T (b + i), isV s = true → (s ∈ tmn T n ∧ s ≠ dt T n) ∨ ∃ j, j < qK cl ∧ s = nI (w + j)
theorem tSet_G {R : TS × Option Nat} {c : Nat} {w : Int32} : tG (tSet R c w) = tG R.1 := by
  unfold tSet
  split <;> rfl
theorem tCls_G {pt : Nat → Int32} {cs : Nat → Bool} {bd : Nat → List Int32} {T : TS} {n a : Nat} {v : Int32} {c : Nat} (h : tG T = true) : tG (tCls pt cs bd T n a v c) = true := by
  unfold tCls
  rw [tSet_G]
  exact tAdd_G (tNK_G h)
theorem tSpL_G {pt : Nat → Int32} {cs : Nat → Bool} {bd : Nat → List Int32} {n a : Nat} {v : Int32} {f c : Nat} {T : TS} (h : tG T = true) : tG (tSpL pt cs bd n a v f c T) = true := by
  cases f with
  | zero => exact h
  | succ f => unfold tSpL; rw [if_pos h]; exact h
/-- one clause -/
theorem WF.cls {pt : Nat → Int32} {cs : Nat → Bool} {bd : Nat → List Int32} {T : TS} {n a v b k c : Nat} {zs : List Int32} (hS : SW pt cs) (hB : BdW pt cs bd) (hW : WF pt T (some n)) (hn : n < tN T) (hC : Ch T n b k) (hb : b + k = tN T) (h4 : kd T n = 4) (hd : dt T n = nI v) (ht : tmn T n = zs) (hv : v < 100) (hpre : ∀ i, i ≤ a → isC (zs.getD i (-1)) = true) (ha : a + 1 < zs.length) (hav : zs.getD (a + 1) (-1) = nI v) (hcs : sgC cs (zs.getD a (-1)) = true) (hc6 : c < 6) (hbd : (sB bd (zs.getD a (-1)) (nI c)).isSome = true) (hE : ∀ i, i < k → EV4 T n b i) (hg : tG (tCls pt cs bd T n a (nI v) c) = false) :
    WF pt (tCls pt cs bd T n a (nI v) c) (some n) ∧ Ch (tCls pt cs bd T n a (nI v) c) n b (k + 1) ∧ tN (tCls pt cs bd T n a (nI v) c) = tN T + 1 ∧ tV (tCls pt cs bd T n a (nI v) c) = tV T + qK c ∧ (∀ m, m < tN T → (tD (tCls pt cs bd T n a (nI v) c) m).1 = (tD T m).1 ∧ tmn (tCls pt cs bd T n a (nI v) c) m = tmn T m) ∧ (∀ i, i < k + 1 → EV4 (tCls pt cs bd T n a (nI v) c) n b i) ∧
    tV T + qK c ≤ 100 ∧ aRep T n c (nI v) = zs.flatMap (sbV (nI v) ([nI (100 + c)] ++ (List.range (qK c)).map (fun i => nI (tV T + i)))) ∧ (uL pt cs bd (aRep T n c (nI v)) a).length ≤ 40 ∧ tmn (tCls pt cs bd T n a (nI v) c) (tN T) = uL pt cs bd (aRep T n c (nI v)) a ∧ (tD (tCls pt cs bd T n a (nI v) c) (tN T)).1 11 = nI c ∧ (0 < qK c → (tD (tCls pt cs bd T n a (nI v) c) (tN T)).1 12 = nI (tV T)) ∧ tmq (nP (sgP pt)) (gA pt (tV T + qK c)) (aRep T n c (nI v)) ∧ ufs cs (fun s x => (sB bd s x).map (fun i => 33 + 2 + 2 * i)) (aRep T n c (nI v)) a = true ∧ (aRep T n c (nI v)).getD a (-1) = zs.getD a (-1) ∧ (aRep T n c (nI v)).getD (a + 1) (-1) = nI (100 + c) ∧ a + 1 < (aRep T n c (nI v)).length ∧ (aRep T n c (nI v)).length ≤ 120 := by
  have hg0 : tG (tAdd (aPat T c).1 (some n) ((uL pt cs bd (aRep T n c (nI v)) a).take 40) (decide (40 < (uL pt cs bd (aRep T n c (nI v)) a).length))).1 = false := by
    have := hg
    unfold tCls at this
    rw [tSet_G] at this
    exact this
  have hgp : tG (aPat T c).1 = false := (tAdd_ok hg0).2.2.2.1
  obtain ⟨p1, p2, p3, p4⟩ := tNK_spec (k := qK c) (T := T) (l := [100 + nI c]) hW hgp
  have e100 : (100 : Int32) + nI c = nI (100 + c) := by rw [show (100 : Int32) = nI 100 from rfl, nI_add]
  rw [e100] at p4
  have eD : tD (aPat T c).1 = tD T := tNK_o.1
  have eN : tN (aPat T c).1 = tN T := tNK_o.2.1
  have p2' : tV (aPat T c).1 = tV T + qK c := p2
  have p4' : (aPat T c).2 = [nI (100 + c)] ++ (List.range (qK c)).map (fun i => nI (tV T + i)) := by
    unfold aPat; rw [e100]; exact p4
  have hrep : aRep T n c (nI v) = zs.flatMap (sbV (nI v) ([nI (100 + c)] ++ (List.range (qK c)).map (fun i => nI (tV T + i)))) := by
    unfold aRep
    rw [p4', hW.t40 hn, ht]
  have hzs : tmq (nP (sgP pt)) (gA pt (tV T)) zs := by rw [← ht]; exact (hW.2.2 n hn).1.1
  obtain ⟨r1, r2, r3, r4, r5⟩ := rep_spec hS hzs p3 hc6 hv hpre ha hav
  rw [← hrep] at r1 r2 r3 r4 r5
  have hzl : zs.length ≤ 40 := by rw [← ht]; exact (hW.1.2.2 n hn).1
  have hrl : (aRep T n c (nI v)).length ≤ 120 := by
    rw [hrep]
    refine Nat.le_trans (fm_le (k := 3) (fun s => (sbV_len ?_ ?_).2)) (by omega)
    · simp
    · have := (qK_nat c).1
      simp
      omega
  have hcaf : caf cs (aRep T n c (nI v)) a = nI c := by
    unfold caf
    rw [r2, hcs, r3, isK_n (by omega), decide_eq_true (show 100 ≤ 100 + c ∧ 100 + c < 106 by omega)]
    show nI (100 + c) - 100 = nI c
    rw [show (100 : Int32) = nI 100 from rfl, nI_sub (by omega), Nat.add_sub_cancel_left]
  have hufs : ufs cs (fun s x => (sB bd s x).map (fun i => 33 + 2 + 2 * i)) (aRep T n c (nI v)) a = true := by
    unfold ufs
    have hne : ¬ caf cs (aRep T n c (nI v)) a = -1 := fun z => by
      rw [hcaf] at z
      have := congrArg Int32.toInt z
      rw [nI_toInt (by omega)] at this
      have q : (-1 : Int32).toInt = -1 := by decide
      omega
    rw [r2, if_pos hcs, if_neg hne, hcaf]
    show ((sB bd (zs.getD a (-1)) (nI c)).map _).isSome = true
    rw [Option.isSome_map]
    exact hbd
  have hL := uL_vA hS hB (show (aRep T n c (nI v)).length ≤ 10000 by omega) r1 (show a < (aRep T n c (nI v)).length by omega) (by rw [r2]; exact hpre a (Nat.le_refl _)) hufs
  have hlen : (uL pt cs bd (aRep T n c (nI v)) a).length ≤ 40 := Nat.not_lt.mp (of_decide_eq_false (tAdd_ok hg0).2.2.1)
  have hC1 : Ch (aPat T c).1 n b k := by
    unfold Ch lkn at hC ⊢
    rw [eD, eN]
    exact hC
  have ek : kd (aPat T c).1 n = 4 := by unfold kd at h4 ⊢; rw [eD]; exact h4
  have hLm : tmq (nP (sgP pt)) (gA pt (tV (aPat T c).1)) ((uL pt cs bd (aRep T n c (nI v)) a).take 40) := by
    rw [List.take_of_length_le hlen, p2']
    exact hL.mono (fun k _ z => z.1)
  obtain ⟨a1, a2, a3, a4, a5, a6, a7⟩ := WF.add (T := (aPat T c).1) p1 (by rw [eN]; exact hn) hC1 (by rw [eN]; exact hb) (by rw [ek]; decide) hLm hg0
  replace a5 := a5.trans (List.take_of_length_le hlen)
  have eT : tCls pt cs bd T n a (nI v) c = tUp (tAdd (aPat T c).1 (some n) ((uL pt cs bd (aRep T n c (nI v)) a).take 40) (decide (40 < (uL pt cs bd (aRep T n c (nI v)) a).length))).1 (tN T) (xi (xi (tD (tAdd (aPat T c).1 (some n) ((uL pt cs bd (aRep T n c (nI v)) a).take 40) (decide (40 < (uL pt cs bd (aRep T n c (nI v)) a).length))).1 (tN T)) 11 (nI c)) 12 (aFst T c)) := by
    unfold tCls tSet
    rw [a7, eN]
  rw [eN] at a3 a5 a6
  generalize (tAdd (aPat T c).1 (some n) ((uL pt cs bd (aRep T n c (nI v)) a).take 40) (decide (40 < (uL pt cs bd (aRep T n c (nI v)) a).length))).1 = T1 at *
  have hlast := a2.2.2.2.2 k (Nat.lt_succ_self _)
  rw [hb] at hlast
  obtain ⟨m1, m2, m3, m4, m5, m6, m7, m8⟩ := a1.mark (m := tN T) (v := nI c) (w := aFst T c) (by omega) (by omega) hlast.1 a2
  have hN2 : tN (tUp T1 (tN T) (xi (xi (tD T1 (tN T)) 11 (nI c)) 12 (aFst T c))) = tN T1 := rfl
  have hV2 : tV (tUp T1 (tN T) (xi (xi (tD T1 (tN T)) 11 (nI c)) 12 (aFst T c))) = tV T1 := rfl
  rw [eT]
  generalize tUp T1 (tN T) (xi (xi (tD T1 (tN T)) 11 (nI c)) 12 (aFst T c)) = T2 at *
  have hTm : ∀ m, m < tN T → (tD T2 m).1 = (tD T m).1 ∧ tmn T2 m = tmn T m := fun m hm => by
    rw [m3, m6 m (by omega), (a6 m hm).1, (a6 m hm).2, eD]
    refine ⟨rfl, ?_⟩
    unfold tmn
    rw [eD]
  have hfst : 0 < qK c → aFst T c = nI (tV T) := fun hq => by
    unfold aFst
    rw [if_neg (by omega), p4']
    obtain ⟨q, hq'⟩ : ∃ q, qK c = q + 1 := ⟨qK c - 1, by omega⟩
    rw [hq', List.range_succ_eq_map]
    rfl
  have a4' : tV T2 = tV T + qK c := by rw [hV2, a4, p2']
  have htl : tmn T2 (tN T) = uL pt cs bd (aRep T n c (nI v)) a := by rw [m3, a5]
  refine ⟨m1, m2, by rw [hN2, a3], a4', hTm, fun i hi => ?_, p3, hrep, hlen, htl, m7, fun hq => by rw [m8, hfst hq], r1, hufs, r2, r3, r4, hrl⟩
  by_cases e : i = k
  · subst e
    refine ⟨c, tV T, hc6, by rw [hb]; exact m7, fun hq => by rw [hb, m8, hfst hq], p3, ?_⟩
    rw [hb, htl, (hTm n hn).2, m5]
    intro s hs hvs
    have e1 : dt T1 n = nI v := by
      unfold dt at hd ⊢
      rw [(a6 n hn).1, eD]
      exact hd
    rw [e1, ht]
    exact r5 s (vA_sub hL.2 s hs hvs) hvs
  · obtain ⟨cl, w, g1, g2, g3, g4, g5⟩ := hE i (by omega)
    have hbi : b + i < tN T := by omega
    refine ⟨cl, w, g1, by rw [(hTm _ hbi).1]; exact g2, by rw [(hTm _ hbi).1]; exact g3, g4, ?_⟩
    rw [(hTm _ hbi).2, (hTm n hn).2]
    have : dt T2 n = dt T n := by unfold dt; rw [(hTm n hn).1]
    rw [this]
    exact g5
theorem WF.spl {pt : Nat → Int32} {cs : Nat → Bool} {bd : Nat → List Int32} {n a v b : Nat} {zs : List Int32} (hS : SW pt cs) (hB : BdW pt cs bd) (hv : v < 100) (hpre : ∀ i, i ≤ a → isC (zs.getD i (-1)) = true) (ha : a + 1 < zs.length) (hav : zs.getD (a + 1) (-1) = nI v) (hcs : sgC cs (zs.getD a (-1)) = true) : ∀ {f c : Nat} {T : TS} {k : Nat}, c + f ≤ 6 → WF pt T (some n) → n < tN T → Ch T n b k → b + k = tN T → kd T n = 4 → dt T n = nI v → tmn T n = zs → (∀ i, i < k → EV4 T n b i) → tG (tSpL pt cs bd n a (nI v) f c T) = false →
    ∃ k', WF pt (tSpL pt cs bd n a (nI v) f c T) (some n) ∧ Ch (tSpL pt cs bd n a (nI v) f c T) n b k' ∧ tN T ≤ tN (tSpL pt cs bd n a (nI v) f c T) ∧ (∀ m, m < tN T → (tD (tSpL pt cs bd n a (nI v) f c T) m).1 = (tD T m).1 ∧ tmn (tSpL pt cs bd n a (nI v) f c T) m = tmn T m) ∧ (∀ i, i < k' → EV4 (tSpL pt cs bd n a (nI v) f c T) n b i)
  | 0, c, T, k, hc, hW, hn, hC, hb, h4, hd, ht, hE, hg => ⟨k, hW, hC, Nat.le_refl _, fun _ _ => ⟨rfl, rfl⟩, hE⟩
  | f + 1, c, T, k, hc, hW, hn, hC, hb, h4, hd, ht, hE, hg => by
    have e0 : ¬ tG T = true := by rw [hW.2.1]; decide
    unfold tSpL at hg ⊢
    rw [if_neg e0] at hg ⊢
    rw [hW.t40 hn, ht] at hg ⊢
    by_cases z : (sB bd (zs.getD a (-1)) (nI c)).isSome = true
    · rw [if_pos z] at hg ⊢
      have hgc : tG (tCls pt cs bd T n a (nI v) c) = false := nG (fun y => tSpL_G (f := f) (c := c + 1) y) hg
      obtain ⟨a1, a2, a3, a4, a5, a6, -⟩ := hW.cls hS hB hn hC hb h4 hd ht hv hpre ha hav hcs (by omega) z hE hgc
      obtain ⟨k', i1, i2, i3, i4, i5⟩ := WF.spl hS hB hv hpre ha hav hcs (f := f) (c := c + 1) (T := tCls pt cs bd T n a (nI v) c) (k := k + 1) (by omega) a1 (by omega) a2 (by omega) (by unfold kd at h4 ⊢; rw [(a5 n hn).1]; exact h4) (by unfold dt at hd ⊢; rw [(a5 n hn).1]; exact hd) (by rw [(a5 n hn).2]; exact ht) a6 hg
      exact ⟨k', i1, i2, by omega, fun m hm => ⟨(i4 m (by omega)).1.trans (a5 m hm).1, (i4 m (by omega)).2.trans (a5 m hm).2⟩, i5⟩
    · rw [if_neg z] at hg ⊢
      exact WF.spl hS hB hv hpre ha hav hcs (f := f) (c := c + 1) (T := T) (k := k) (by omega) hW hn hC hb h4 hd ht hE hg
theorem PK_split {pt : Nat → Int32} {cs : Nat → Bool} {bd : Nat → List Int32} {T : TS} {n a : Nat} (hS : SW pt cs) (hB : BdW pt cs bd) (hW : WF pt T none) (hn : n < tN T) (h8 : kd T n = 8) (hpre : ∀ i, i ≤ a → isC ((tmn T n).getD i (-1)) = true) (ha : a + 1 < (tmn T n).length) (hv : isV ((tmn T n).getD (a + 1) (-1)) = true) (hcs : sgC cs ((tmn T n).getD a (-1)) = true) (hg : tG (tSplit pt cs bd T n a) = false) : PK pt T (tSplit pt cs bd T n a) n := by
  obtain ⟨v, hv4, hav, hgv⟩ := (hW.2.2 n hn).1.1.2.getD ha
  have hav' : (tmn T n).getD (a + 1) (-1) = nI v := hav
  rw [hav', isV_n (by omega)] at hv
  have hv := of_decide_eq_true hv
  have hmem : nI v ∈ tmn T n := by
    rw [← hav', List.getD_eq_getElem?_getD, List.getElem?_eq_getElem ha]
    exact List.getElem_mem ha
  obtain ⟨h1, h2⟩ := hW.bec hn h8 (k := 4) (v := nI v) ⟨4, by omega, rfl⟩ (by decide) (fun _ => hpre 0 (Nat.zero_le _)) (fun _ => ⟨v, hv, rfl, hmem⟩) (fun z => absurd z (by decide)) (fun z => by rcases z with z | z | z | z | z <;> exact absurd z (by decide))
  unfold tSplit at hg ⊢
  rw [hW.t40 hn, hav'] at hg ⊢
  have hkd : kd (tUp T n (nBecome (tD T n) 4 (nI v))) n = 4 := by unfold kd; rw [tD_up]; rfl
  have hdt : dt (tUp T n (nBecome (tD T n) 4 (nI v))) n = nI v := by unfold dt; rw [tD_up]; rfl
  have htm : tmn (tUp T n (nBecome (tD T n) 4 (nI v))) n = tmn T n := by
    show ntm _ = _
    rw [tD_up]; rfl
  obtain ⟨k', i1, i2, i3, i4, i5⟩ := WF.spl hS hB hv hpre ha hav' hcs (f := 6) (c := 0) (k := 0) (by omega) h1 hn h2 (show tN T + 0 = tN T from rfl) hkd hdt htm (fun i hi => absurd hi (Nat.not_lt_zero _)) hg
  generalize tSpL pt cs bd n a (nI v) 6 0 (tUp T n (nBecome (tD T n) 4 (nI v))) = T' at *
  have hk' : kd T' n = 4 := by unfold kd at hkd ⊢; rw [(i4 n hn).1]; exact hkd
  refine ⟨i1.close (fun _ => ⟨_, _, i2, ?_, ?_, ?_, ?_⟩), i3, fun m hm hm8 => ?_⟩
  · intro z; rw [hk'] at z; exact absurd z (by decide)
  · intro z; rw [hk'] at z; exact absurd z (by decide)
  · intro _ i hi
    exact i5 i hi
  · intro z; rw [hk'] at z; exact absurd z (by decide)
  · by_cases e : m = n
    · subst e; rw [hk'] at hm8; exact absurd hm8 (by decide)
    · unfold kd at hm8 ⊢
      rw [(i4 m hm).1, tD_ne e] at hm8
      exact ⟨hm8, e⟩
