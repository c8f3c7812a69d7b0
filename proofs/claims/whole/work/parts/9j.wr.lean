/-! pure: which nodes have a function, its parameters -/
def TE (T T' : TS) : Prop := tN T' = tN T ∧ tV T' = tV T ∧ tG T' = tG T ∧ ∀ k, (∀ j, j ≠ 10 → (tD T' k).1 j = (tD T k).1 j) ∧ (tD T' k).2.1 = (tD T k).2.1 ∧ ntm (tD T' k) = ntm (tD T k)
theorem TE.rf {T : TS} : TE T T := ⟨rfl, rfl, rfl, fun _ => ⟨fun _ _ => rfl, rfl, rfl⟩⟩
theorem TE.tr {T T' T'' : TS} (h : TE T T') (h2 : TE T' T'') : TE T T'' := ⟨h2.1.trans h.1, h2.2.1.trans h.2.1, h2.2.2.1.trans h.2.2.1, fun k => ⟨fun j hj => ((h2.2.2.2 k).1 j hj).trans ((h.2.2.2 k).1 j hj), (h2.2.2.2 k).2.1.trans (h.2.2.2 k).2.1, (h2.2.2.2 k).2.2.trans (h.2.2.2 k).2.2⟩⟩
theorem TE.kd {T T' : TS} (h : TE T T') (k : Nat) : kd T' k = kd T k := (h.2.2.2 k).1 7 (by decide)
theorem TE.dt {T T' : TS} (h : TE T T') (k : Nat) : dt T' k = dt T k := (h.2.2.2 k).1 8 (by decide)
theorem TE.lk {T T' : TS} (h : TE T T') (k j : Nat) : lkn T' k j = lkn T k j := congrFun (h.2.2.2 k).2.1 j
theorem TE.tm {T T' : TS} (h : TE T T') (k : Nat) : tmn T' k = tmn T k := (h.2.2.2 k).2.2
theorem TE.t40 {T T' : TS} (h : TE T T') (k : Nat) : t40 T' k = t40 T k := by unfold _root_.Jvm.Pilot.CSuperDriverLaw_law_r9078_2f07ff.t40; rw [(h.2.2.2 k).2.2]
theorem TE.up {T : TS} {n : Nat} {x : ND} (h1 : ∀ j, j ≠ 10 → x.1 j = (tD T n).1 j) (h2 : x.2.1 = (tD T n).2.1) (h3 : ntm x = ntm (tD T n)) : TE T (tUp T n x) := ⟨rfl, rfl, rfl, fun k => by
  by_cases e : k = n
  · subst e; rw [tD_up]; exact ⟨h1, h2, h3⟩
  · rw [tD_ne e]; exact ⟨fun _ _ => rfl, rfl, rfl⟩⟩
theorem TE.rs {T : TS} {n : Nat} {l : List Int32} : TE T (tRs T n l) := TE.up (fun _ _ => rfl) rfl rfl
theorem TE.fl {T : TS} {n : Nat} {v : Int32} : TE T (tUp T n (xi (tD T n) 10 v)) := TE.up (fun _ hj => xi_o hj) rfl rfl
theorem TE.mk1 {T : TS} {n : Nat} : TE T (tMk1 T n) := by
  unfold tMk1
  split
  · exact TE.fl
  · split
    · exact TE.rf
    · exact TE.fl
def mk1 (T : TS) (n k : Nat) : Bool := (decide (kd T n = 4) && decide (k = n)) || (!decide (kd T n = 4) && decide (lkn T n 9 = some k))
def mkN (T : TS) (k : Nat) : Nat → Nat → Bool
  | 0, _ => false
  | j + 1, n => mk1 T n k || mkN T k j (n + 1)
theorem mkN_s {T : TS} {k j n : Nat} : mkN T k (j + 1) n = (mk1 T n k || mkN T k j (n + 1)) := rfl
theorem mkN_te {T T' : TS} (h : TE T T') {k : Nat} : ∀ {j n : Nat}, mkN T' k j n = mkN T k j n
  | 0, _ => rfl
  | j + 1, n => by
    unfold mkN mk1
    rw [h.kd, h.lk, mkN_te h]
theorem tMk1_fl {T : TS} {n k : Nat} : (tD (tMk1 T n) k).1 10 = (if mk1 T n k = true then 1 else (tD T k).1 10) ∧ nrs (tD (tMk1 T n) k) = nrs (tD T k) := by
  have hu : ∀ q : Nat, (tD (tUp T q (xi (tD T q) 10 1)) k).1 10 = (if k = q then 1 else (tD T k).1 10) ∧ nrs (tD (tUp T q (xi (tD T q) 10 1)) k) = nrs (tD T k) := fun q => by
    by_cases e : k = q
    · subst e
      rw [tD_up, if_pos rfl]
      exact ⟨by simp [xi, upN], rfl⟩
    · rw [tD_ne e, if_neg e]
      exact ⟨rfl, rfl⟩
  unfold tMk1 mk1
  by_cases h4 : kd T n = 4
  · rw [if_pos (show (tD T n).1 7 = 4 from h4), decide_eq_true h4]
    have := hu n
    by_cases e : k = n
    · rw [if_pos e] at this
      rw [decide_eq_true e]
      exact this
    · rw [if_neg e] at this
      rw [decide_eq_false e]
      exact this
  · rw [if_neg (show ¬ (tD T n).1 7 = 4 from h4), decide_eq_false h4]
    rcases hl : (tD T n).2.1 9 with _ | u
    · simp only [hl]
      rw [decide_eq_false (show ¬ lkn T n 9 = some k by unfold lkn; rw [hl]; intro z; cases z)]
      exact ⟨rfl, trivial⟩
    · simp only [hl]
      have := hu u
      by_cases e : k = u
      · rw [if_pos e] at this
        rw [decide_eq_true (show lkn T n 9 = some k by unfold lkn; rw [hl, e])]
        exact this
      · rw [if_neg e] at this
        rw [decide_eq_false (show ¬ lkn T n 9 = some k by unfold lkn; rw [hl]; intro z; exact e (Option.some.inj z).symm)]
        exact this
theorem tMk_fl {k : Nat} : ∀ {j n : Nat} {T : TS}, (tD (tMk j n T) k).1 10 = (if mkN T k j n = true then 1 else (tD T k).1 10) ∧ nrs (tD (tMk j n T) k) = nrs (tD T k) ∧ TE T (tMk j n T)
  | 0, n, T => ⟨rfl, rfl, TE.rf⟩
  | j + 1, n, T => by
    obtain ⟨i1, i2, i3⟩ := tMk_fl (k := k) (j := j) (n := n + 1) (T := tMk1 T n)
    obtain ⟨a1, a2⟩ := tMk1_fl (T := T) (n := n) (k := k)
    refine ⟨?_, i2.trans a2, TE.mk1.tr i3⟩
    show (tD (tMk j (n + 1) (tMk1 T n)) k).1 10 = _
    rw [i1, mkN_te TE.mk1, a1, mkN_s]
    by_cases h1 : mk1 T n k = true
    · rw [if_pos h1, h1, Bool.true_or, if_pos rfl]
      split <;> rfl
    · rw [if_neg h1, Bool.eq_false_iff.mpr h1, Bool.false_or]
theorem mkN_iff {T : TS} {k : Nat} : ∀ {j n : Nat}, mkN T k j n = true ↔ ∃ m, n ≤ m ∧ m < n + j ∧ mk1 T m k = true
  | 0, n => ⟨fun z => (Bool.false_ne_true z).elim, fun ⟨m, h1, h2, _⟩ => by omega⟩
  | j + 1, n => by
    rw [mkN_s, Bool.or_eq_true_iff, mkN_iff (j := j) (n := n + 1)]
    refine ⟨fun z => ?_, fun ⟨m, h1, h2, h3⟩ => ?_⟩
    · rcases z with z | ⟨m, h1, h2, h3⟩
      · exact ⟨n, by omega, by omega, z⟩
      · exact ⟨m, by omega, by omega, h3⟩
    · by_cases e : m = n
      · subst e; exact Or.inl h3
      · exact Or.inr ⟨m, by omega, by omega, h3⟩
def fnT (T : TS) (n : Nat) : Bool := mkN T n (tN T) 0
theorem fnT_te {T T' : TS} (h : TE T T') {n : Nat} : fnT T' n = fnT T n := by unfold fnT; rw [mkN_te h, h.1]
theorem WF.l9 {pt : Nat → Int32} {T : TS} {h : Option Nat} {m u : Nat} (hW : WF pt T h) (hm : m < tN T) (e : lkn T m 9 = some u) : kd T m = 6 := by
  refine Decidable.byContradiction fun z => ?_
  have := (hW.2.2 m hm).1.2.2.2.2.2.1 z
  unfold lkn at e
  rw [this] at e
  cases e
theorem fnT_iff {pt : Nat → Int32} {T : TS} {h : Option Nat} {k : Nat} (hW : WF pt T h) (hk : k < tN T) : fnT T k = true ↔ kd T k = 4 ∨ ∃ m, m < tN T ∧ lkn T m 9 = some k := by
  unfold fnT
  rw [mkN_iff]
  refine ⟨fun ⟨m, h1, h2, h3⟩ => ?_, fun z => ?_⟩
  · unfold mk1 at h3
    rcases Bool.or_eq_true_iff.mp h3 with z | z
    · have z := Bool.and_eq_true_iff.mp z
      left
      rw [of_decide_eq_true z.2]
      exact of_decide_eq_true z.1
    · exact Or.inr ⟨m, by omega, of_decide_eq_true (Bool.and_eq_true_iff.mp z).2⟩
  · rcases z with z | ⟨m, hm, e⟩
    · refine ⟨k, by omega, by omega, ?_⟩
      unfold mk1
      rw [decide_eq_true z, decide_eq_true rfl]
      rfl
    · refine ⟨m, by omega, by omega, ?_⟩
      have h6 := hW.l9 hm e
      unfold mk1
      rw [decide_eq_false (show ¬ kd T m = 4 by rw [h6]; decide), decide_eq_true e]
      rfl
theorem fnT_34 {pt : Nat → Int32} {T : TS} {h : Option Nat} {k : Nat} (hW : WF pt T h) (hk : k < tN T) (hf : fnT T k = true) : kd T k = 3 ∨ kd T k = 4 := by
  rcases (fnT_iff hW hk).mp hf with z | ⟨m, hm, e⟩
  · exact Or.inr z
  · obtain ⟨u, h1, h2, h3, _⟩ := (hW.2.2 m hm).2.1 (hW.l9 hm e)
    have : u = k := Option.some.inj (h1.symm.trans e)
    rw [← this]
    exact h3
theorem useN_iff {σ : Mem} {n : Nat} : ∀ {j : Nat}, useN σ n j = true ↔ ∃ m, m < j ∧ σ.1 400 m = 6 ∧ σ.1 404 m = nI n
  | 0 => ⟨fun z => (Bool.false_ne_true z).elim, fun ⟨m, h, _⟩ => by omega⟩
  | j + 1 => by
    unfold useN
    rw [Bool.or_eq_true_iff, useN_iff (j := j), Bool.and_eq_true_iff]
    refine ⟨fun z => ?_, fun ⟨m, h1, h2, h3⟩ => ?_⟩
    · rcases z with ⟨m, h1, h2, h3⟩ | ⟨h2, h3⟩
      · exact ⟨m, by omega, h2, h3⟩
      · exact ⟨j, by omega, of_decide_eq_true h2, of_decide_eq_true h3⟩
    · by_cases e : m = j
      · subst e; exact Or.inr ⟨decide_eq_true h2, decide_eq_true h3⟩
      · exact Or.inl ⟨m, by omega, h2, h3⟩
theorem fnq_eq {pt : Nat → Int32} {σ : Mem} {T : TS} {n : Nat} (hR : Rt σ T none) (hW : WF pt T none) (hn : n < tN T) : fnq σ (tN T) n = fnT T n := by
  have h48 := hW.1.1
  refine Bool.eq_iff_iff.mpr ?_
  rw [fnT_iff hW hn]
  unfold fnq
  rw [Bool.or_eq_true_iff, Bool.and_eq_true_iff, useN_iff, (hR.2.2.2 n hn).1.1, decide_eq_true_iff, decide_eq_true_iff]
  refine ⟨fun z => ?_, fun z => ?_⟩
  · rcases z with z | ⟨_, m, hm, h6, h4⟩
    · exact Or.inl z
    · right
      rw [(hR.2.2.2 m hm).1.1] at h6
      rw [(hR.2.2.2 m hm).1.2.2.2.1 (by rw [h6]; decide) (by rw [h6]; decide)] at h4
      obtain ⟨u, h1, h2, h3, h3b, h3c⟩ := (hW.2.2 m hm).2.1 h6
      have hu := isBel_lt hW.1.AW hm h3c
      have : u = n := nI_inj (h2.symm.trans h4) (by omega) (by omega)
      exact ⟨m, hm, by rw [h1, this]⟩
  · rcases z with z | ⟨m, hm, e⟩
    · exact Or.inl z
    · have h6 := hW.l9 hm e
      obtain ⟨u, h1, h2, h3, h3b⟩ := (hW.2.2 m hm).2.1 h6
      have hu : u = n := Option.some.inj (h1.symm.trans e)
      subst hu
      rcases h3 with z | z
      · refine Or.inr ⟨z, m, hm, by rw [(hR.2.2.2 m hm).1.1]; exact h6, ?_⟩
        rw [(hR.2.2.2 m hm).1.2.2.2.1 (by rw [h6]; decide) (by rw [h6]; decide)]
        exact h2
      · exact Or.inl z
def pF (T : TS) (n : Nat) : List Int32 := (tmn T n).foldl pl1 (if kd T n = 4 then [dt T n] else [])
def pT (T : TS) (n : Nat) : List Int32 := if fnT T n = true then pF T n else []
theorem pF_te {T T' : TS} (h : TE T T') {n : Nat} : pF T' n = pF T n := by unfold pF; rw [h.tm, h.kd, h.dt]
theorem pls_eq {pt : Nat → Int32} {σ : Mem} {T : TS} {n : Nat} (hR : Rt σ T none) (hW : WF pt T none) (hn : n < tN T) : pls σ (tN T) n (tmn T n) = pT T n := by
  unfold pls pT pF
  rw [fnq_eq hR hW hn]
  unfold pl0
  rw [(hR.2.2.2 n hn).1.1]
  by_cases h4 : kd T n = 4
  · rw [if_pos h4, if_pos h4, (hR.2.2.2 n hn).1.2.2.2.1 (by rw [h4]; decide) (by rw [h4]; decide)]
  · rw [if_neg h4, if_neg h4]
theorem pl1_len {l : List Int32} {s : Int32} : l.length ≤ (pl1 l s).length ∧ (pl1 l s).length ≤ l.length + 1 := by
  unfold pl1 hd1
  split
  · omega
  · split
    · omega
    · rw [List.length_append]; simp
theorem pf_len : ∀ {zs l : List Int32}, l.length ≤ (zs.foldl pl1 l).length ∧ (zs.foldl pl1 l).length ≤ l.length + zs.length
  | [], l => ⟨Nat.le_refl _, Nat.le_refl _⟩
  | s :: zs, l => by
    have h1 := pf_len (zs := zs) (l := pl1 l s)
    have h2 := pl1_len (l := l) (s := s)
    rw [List.foldl_cons, List.length_cons]
    omega
theorem fold_oc {n : Nat} (hn : n < 48) : ∀ {zs l : List Int32}, al (fun _ => True) zs → l.length + zs.length ≤ 98 → zs.foldl oc1 (nI (300 + n) :: l) = nI (300 + n) :: zs.foldl pl1 l
  | [], l, _, _ => rfl
  | s :: zs, l, hz, hl => by
    rw [List.length_cons] at hl
    obtain ⟨k, hk, rfl, _⟩ := hz s (by simp)
    have hlen := pl1_len (l := l) (s := nI k)
    rw [List.foldl_cons, List.foldl_cons]
    have e : oc1 (nI (300 + n) :: l) (nI k) = nI (300 + n) :: pl1 l (nI k) := by
      unfold oc1 pl1 hd1
      rw [isV_n (by omega), List.take_of_length_le (by rw [List.length_cons]; omega)]
      by_cases h : k < 100
      · rw [if_neg (show ¬ (100 : Int32) ≤ nI k from nI_ge h (by decide))]
        have hne : nI (300 + n) ≠ nI k := fun z => by have := nI_inj z (by omega) (by omega); omega
        unfold idxI
        have ef : fidx (nI k) (nI (300 + n) :: l) = fidx (nI k) l + 1 := by simp [fidx, hne]
        rw [ef, List.length_cons]
        by_cases hf : fidx (nI k) l < l.length
        · rw [if_pos (show fidx (nI k) l + 1 < l.length + 1 by omega), if_neg (fun z => nI_nm1 (by omega) z.2), if_pos hf]
        · rw [if_neg (show ¬ fidx (nI k) l + 1 < l.length + 1 by omega), if_pos ⟨decide_eq_true h, rfl⟩, if_neg hf]
          rfl
      · rw [if_neg (fun z => h (of_decide_eq_true z.1)), if_pos (show (100 : Int32) ≤ nI k from nI_le (a := 100) (by omega) (by omega))]
    rw [e]
    exact fold_oc hn (fun s hs => hz s (by simp [hs])) (by omega)
theorem WF.al {pt : Nat → Int32} {T : TS} {h : Option Nat} {n : Nat} (hW : WF pt T h) (hn : n < tN T) : _root_.Jvm.Pilot.CSuperDriverLaw_law_r9078_2f07ff.al (fun _ => True) (tmn T n) := (hW.2.2 n hn).1.1.2.mono (fun _ _ _ => trivial)
theorem ocL_eq {pt : Nat → Int32} {T T' : TS} {n : Nat} (hW : WF pt T none) (hn : n < tN T) (hE : TE T T') (h0 : nrs (tD T' n) = []) : ocL T' n = nI (300 + n) :: pF T n := by
  have h48 := hW.1.1
  have hl := (hW.1.2.2 n hn).1
  unfold ocL ocH
  rw [h0, hE.t40, hW.t40 hn]
  have e1 : (300 : Int32) + nI n = nI (300 + n) := nI_add 300 n
  have e2 : ((tD T' n).1 7 = 4) = (kd T n = 4) := by rw [← hE.kd]; rfl
  have e3 : (tD T' n).1 8 = dt T n := hE.dt n
  have e4 : ([] ++ [(300 : Int32) + nI n] ++ (if (tD T' n).1 7 = 4 then [(tD T' n).1 8] else [])) = nI (300 + n) :: (if kd T n = 4 then [dt T n] else []) := by
    rw [e1, e3]
    by_cases h4 : kd T n = 4
    · rw [if_pos h4, if_pos (by rw [e2]; exact h4)]; rfl
    · rw [if_neg h4, if_neg (by rw [e2]; exact h4)]; rfl
  rw [e4, fold_oc (by omega) (hW.al hn)]
  · rfl
  · have h1 : (if kd T n = 4 then [dt T n] else []).length ≤ 1 := by split <;> simp
    have h2 : (tmn T n).length ≤ 40 := hl
    omega
theorem pF_len {pt : Nat → Int32} {T : TS} {n : Nat} (hW : WF pt T none) (hn : n < tN T) : (pF T n).length ≤ 41 ∧ (kd T n = 4 → 1 ≤ (pF T n).length) := by
  have h2 : (tmn T n).length ≤ 40 := (hW.1.2.2 n hn).1
  have h3 := pf_len (zs := tmn T n) (l := if kd T n = 4 then [dt T n] else [])
  unfold pF
  refine ⟨?_, fun h4 => ?_⟩
  · have h1 : (if kd T n = 4 then [dt T n] else []).length ≤ 1 := by split <;> simp
    omega
  · rw [if_pos h4] at h3 ⊢
    exact h3.1
theorem pl1_mem {l : List Int32} {s x : Int32} (h : x ∈ pl1 l s) : x ∈ l ∨ (x = s ∧ ¬ (100 : Int32) ≤ s) := by
  unfold pl1 hd1 at h
  split at h
  · exact Or.inl h
  · next z =>
    split at h
    · exact Or.inl h
    · rcases List.mem_append.mp h with y | y
      · exact Or.inl y
      · exact Or.inr ⟨by simpa using y, z⟩
theorem pf_mem : ∀ {zs l : List Int32} {x : Int32}, x ∈ zs.foldl pl1 l → x ∈ l ∨ (x ∈ zs ∧ ¬ (100 : Int32) ≤ x)
  | [], l, x, h => Or.inl h
  | s :: zs, l, x, h => by
    rw [List.foldl_cons] at h
    rcases pf_mem h with z | z
    · rcases pl1_mem z with y | ⟨y1, y2⟩
      · exact Or.inl y
      · exact Or.inr ⟨by simp [y1], by rw [y1]; exact y2⟩
    · exact Or.inr ⟨by simp [z.1], z.2⟩
theorem pF_mem {pt : Nat → Int32} {T : TS} {n : Nat} (hW : WF pt T none) (hn : n < tN T) {s : Int32} (hs : s ∈ pF T n) : ∃ k, k < 100 ∧ s = nI k ∧ s ∈ tmn T n := by
  unfold pF at hs
  rcases pf_mem hs with z | ⟨z1, z2⟩
  · by_cases h4 : kd T n = 4
    · rw [if_pos h4] at z
      obtain ⟨v, hv, e, hm⟩ := (hW.2.2 n hn).1.2.2.2.2.2.2.2.1 h4
      have : s = dt T n := by simpa using z
      rw [this]
      exact ⟨v, hv, e, by show (tD T n).1 8 ∈ _; rw [e]; exact hm⟩
    · rw [if_neg h4] at z
      cases z
  · obtain ⟨k, hk, e, _⟩ := (hW.al hn) s z1
    refine ⟨k, Nat.not_le.mp fun y => z2 ?_, e, z1⟩
    rw [e]
    exact nI_le (a := 100) y (by omega)
theorem pT_mem {pt : Nat → Int32} {T : TS} {n : Nat} (hW : WF pt T none) (hn : n < tN T) {s : Int32} (hs : s ∈ pT T n) : ∃ k, k < 100 ∧ s = nI k ∧ s ∈ tmn T n := by
  unfold pT at hs
  split at hs
  · exact pF_mem hW hn hs
  · cases hs
/-- all that ownL does -/
theorem ownL_d {k : Nat} : ∀ {j n : Nat} {X : WS}, tD (ownL j n X).1 k = (if n ≤ k ∧ k < n + j ∧ (tD X.1 k).1 10 ≠ 0 then xs (tD X.1 k) (ocL X.1 k) else tD X.1 k) ∧ tN (ownL j n X).1 = tN X.1 ∧ tV (ownL j n X).1 = tV X.1 ∧ tG (ownL j n X).1 = tG X.1
  | 0, n, X => ⟨by rw [if_neg (by omega)]; rfl, rfl, rfl, rfl⟩
  | j + 1, n, X => by
    obtain ⟨i1, i2, i3, i4⟩ := ownL_d (k := k) (j := j) (n := n + 1) (X := own1 X n)
    have e : ownL (j + 1) n X = ownL j (n + 1) (own1 X n) := rfl
    rw [e]
    have ho : tN (own1 X n).1 = tN X.1 ∧ tV (own1 X n).1 = tV X.1 ∧ tG (own1 X n).1 = tG X.1 := by unfold own1; split <;> exact ⟨rfl, rfl, rfl⟩
    refine ⟨?_, i2.trans ho.1, i3.trans ho.2.1, i4.trans ho.2.2⟩
    rw [i1]
    by_cases ek : k = n
    · subst ek
      rw [if_neg (by omega)]
      unfold own1
      by_cases h0 : (tD X.1 k).1 10 = 0
      · rw [if_pos h0, if_neg (fun z => z.2.2 h0)]
      · rw [if_neg h0, if_pos ⟨by omega, by omega, h0⟩]
        show tD (ocT X.1 k) k = _
        unfold ocT
        rw [tD_up]
    · have e1 : tD (own1 X n).1 k = tD X.1 k := by
        unfold own1
        split
        · rfl
        · show tD (ocT X.1 n) k = _
          unfold ocT
          rw [tD_ne ek]
      have e2 : ocL (own1 X n).1 k = ocL X.1 k := by
        unfold ocL ocH t40
        rw [e1]
      rw [e1, e2]
      by_cases hr : n ≤ k ∧ k < n + (j + 1) ∧ (tD X.1 k).1 10 ≠ 0
      · rw [if_pos hr, if_pos ⟨by omega, by omega, hr.2.2⟩]
      · rw [if_neg hr, if_neg (fun z => hr ⟨by omega, by omega, z.2.2⟩)]
theorem ownL_p {i : Nat} : ∀ {j n : Nat} {X : WS}, (ownL j n X).2.1 i = (if 300 + n ≤ i ∧ i < 300 + n + j ∧ (tD X.1 (i - 300)).1 10 ≠ 0 then ocP X.1 (i - 300) else X.2.1 i) ∧ (ownL j n X).2.2 i = (if 300 + n ≤ i ∧ i < 300 + n + j ∧ (tD X.1 (i - 300)).1 10 ≠ 0 then ocC X.1 (i - 300) else X.2.2 i)
  | 0, n, X => ⟨by rw [if_neg (by omega)]; rfl, by rw [if_neg (by omega)]; rfl⟩
  | j + 1, n, X => by
    obtain ⟨i1, i2⟩ := ownL_p (i := i) (j := j) (n := n + 1) (X := own1 X n)
    have e : ownL (j + 1) n X = ownL j (n + 1) (own1 X n) := rfl
    rw [e, i1, i2]
    by_cases ek : i = 300 + n
    · subst ek
      have hc0 : ¬ (300 + (n + 1) ≤ 300 + n ∧ 300 + n < 300 + (n + 1) + j ∧ (tD (own1 X n).1 (300 + n - 300)).1 10 ≠ 0) := fun z => by omega
      rw [if_neg hc0, if_neg hc0]
      have en : 300 + n - 300 = n := by omega
      rw [en]
      by_cases h0 : (tD X.1 n).1 10 = 0
      · have hc1 : ¬ (300 + n ≤ 300 + n ∧ 300 + n < 300 + n + (j + 1) ∧ (tD X.1 n).1 10 ≠ 0) := fun z => z.2.2 h0
        rw [if_neg hc1, if_neg hc1]
        unfold own1
        rw [if_pos h0]
        exact ⟨rfl, rfl⟩
      · have hc1 : 300 + n ≤ 300 + n ∧ 300 + n < 300 + n + (j + 1) ∧ (tD X.1 n).1 10 ≠ 0 := ⟨by omega, by omega, h0⟩
        rw [if_pos hc1, if_pos hc1]
        unfold own1
        rw [if_neg h0]
        exact ⟨by simp [upN], by simp [upN]⟩
    · have e0 : (own1 X n).2.1 i = X.2.1 i ∧ (own1 X n).2.2 i = X.2.2 i := by
        unfold own1
        split
        · exact ⟨rfl, rfl⟩
        · exact ⟨by simp [upN, ek], by simp [upN, ek]⟩
      rw [e0.1, e0.2]
      by_cases hr : 300 + n ≤ i ∧ i < 300 + n + (j + 1) ∧ (tD X.1 (i - 300)).1 10 ≠ 0
      · have hne : i - 300 ≠ n := by omega
        have e1 : tD (own1 X n).1 (i - 300) = tD X.1 (i - 300) := by
          unfold own1
          split
          · rfl
          · show tD (ocT X.1 n) _ = _
            unfold ocT
            rw [tD_ne hne]
        have e2 : ocP (own1 X n).1 (i - 300) = ocP X.1 (i - 300) := by
          unfold ocP ocL ocH t40
          rw [e1]
        have e3 : ocC (own1 X n).1 (i - 300) = ocC X.1 (i - 300) := by
          unfold ocC
          rw [e1]
        rw [if_pos hr, if_pos hr, e1, e2, e3, if_pos ⟨by omega, by omega, hr.2.2⟩, if_pos ⟨by omega, by omega, hr.2.2⟩]
        exact ⟨rfl, rfl⟩
      · rw [if_neg hr, if_neg hr]
        by_cases hr2 : 300 + (n + 1) ≤ i ∧ i < 300 + (n + 1) + j
        · have hne : i - 300 ≠ n := by omega
          have e1 : tD (own1 X n).1 (i - 300) = tD X.1 (i - 300) := by
            unfold own1
            split
            · rfl
            · show tD (ocT X.1 n) _ = _
              unfold ocT
              rw [tD_ne hne]
          rw [e1, if_neg (fun z => hr ⟨by omega, by omega, z.2.2⟩), if_neg (fun z => hr ⟨by omega, by omega, z.2.2⟩)]
          exact ⟨rfl, rfl⟩
        · rw [if_neg (fun z => hr2 ⟨z.1, z.2.1⟩), if_neg (fun z => hr2 ⟨z.1, z.2.1⟩)]
          exact ⟨rfl, rfl⟩
/-- the tree before the inline residuals are written -/
def oT (T : TS) (pt : Nat → Int32) (cs : Nat → Bool) : WS := ownL (tN T) 0 (tMk (tN T) 0 T, pt, cs)
theorem mkfl {pt : Nat → Int32} {T : TS} {k : Nat} (hW : WF pt T none) (hk : k < tN T) : (tD (tMk (tN T) 0 T) k).1 10 = bI (fnT T k) ∧ nrs (tD (tMk (tN T) 0 T) k) = [] := by
  obtain ⟨h1, h2, h3⟩ := tMk_fl (k := k) (j := tN T) (n := 0) (T := T)
  refine ⟨?_, h2.trans (hW.2.2 k hk).1.2.2.2.1⟩
  rw [h1, (hW.2.2 k hk).1.2.2.1]
  unfold fnT bI
  rfl
theorem oT_tree {pt0 pt : Nat → Int32} {cs : Nat → Bool} {T : TS} (hW : WF pt0 T none) : TE T (oT T pt cs).1 ∧ ∀ k, k < tN T → (tD (oT T pt cs).1 k).1 10 = bI (fnT T k) ∧ nrs (tD (oT T pt cs).1 k) = if fnT T k = true then nI (300 + k) :: pF T k else [] := by
  have hE := (tMk_fl (k := 0) (j := tN T) (n := 0) (T := T)).2.2
  have hd := fun k => ownL_d (k := k) (j := tN T) (n := 0) (X := (tMk (tN T) 0 T, pt, cs))
  refine ⟨⟨(hd 0).2.1.trans hE.1, (hd 0).2.2.1.trans hE.2.1, (hd 0).2.2.2.trans hE.2.2.1, fun k => ?_⟩, fun k hk => ?_⟩
  · have := (hd k).1
    unfold oT
    rw [this]
    split
    · exact hE.2.2.2 k
    · exact hE.2.2.2 k
  · obtain ⟨m1, m2⟩ := mkfl hW hk
    have := (hd k).1
    unfold oT
    rw [this]
    by_cases hf : fnT T k = true
    · rw [if_pos ⟨by omega, by omega, by rw [m1, hf]; decide⟩, if_pos hf]
      exact ⟨m1, ocL_eq hW hk hE m2⟩
    · rw [if_neg (fun z => z.2.2 (by rw [m1, Bool.eq_false_iff.mpr hf]; rfl)), if_neg hf]
      exact ⟨m1, m2⟩
theorem oT_sg {pt0 pt : Nat → Int32} {cs : Nat → Bool} {T : TS} (hW : WF pt0 T none) (i : Nat) : (oT T pt cs).2.1 i = (if 300 ≤ i ∧ i < 300 + tN T ∧ fnT T (i - 300) = true then nI (pF T (i - 300)).length else pt i) ∧ (oT T pt cs).2.2 i = (if 300 ≤ i ∧ i < 300 + tN T ∧ fnT T (i - 300) = true then decide (kd T (i - 300) = 4) else cs i) := by
  have hE := (tMk_fl (k := 0) (j := tN T) (n := 0) (T := T)).2.2
  obtain ⟨h1, h2⟩ := ownL_p (i := i) (j := tN T) (n := 0) (X := (tMk (tN T) 0 T, pt, cs))
  unfold oT
  rw [h1, h2]
  by_cases hr : 300 ≤ i ∧ i < 300 + tN T
  · have hk : i - 300 < tN T := by omega
    obtain ⟨m1, m2⟩ := mkfl hW hk
    by_cases hf : fnT T (i - 300) = true
    · have hc : 300 + 0 ≤ i ∧ i < 300 + 0 + tN T ∧ (tD (tMk (tN T) 0 T) (i - 300)).1 10 ≠ 0 := ⟨by omega, by omega, by rw [m1, hf]; decide⟩
      rw [if_pos hc, if_pos hc, if_pos ⟨hr.1, hr.2, hf⟩, if_pos ⟨hr.1, hr.2, hf⟩]
      refine ⟨?_, ?_⟩
      · unfold ocP
        rw [ocL_eq hW hk hE m2]
        have := (pF_len hW hk).1
        rw [List.take_of_length_le (by rw [List.length_cons]; omega), List.length_cons]
        exact nI_subn (f := 1) (by omega)
      · unfold ocC
        have e : ((tD (tMk (tN T) 0 T) (i - 300)).1 7 = 4) = (kd T (i - 300) = 4) := by
          have := hE.kd (i - 300)
          rw [← this]; rfl
        show decide ((tD (tMk (tN T) 0 T) (i - 300)).1 7 = 4) = _
        simp only [e]
    · have hc : ¬ (300 + 0 ≤ i ∧ i < 300 + 0 + tN T ∧ (tD (tMk (tN T) 0 T) (i - 300)).1 10 ≠ 0) := fun z => z.2.2 (by rw [m1, Bool.eq_false_iff.mpr hf]; rfl)
      rw [if_neg hc, if_neg hc, if_neg (fun z => hf z.2.2), if_neg (fun z => hf z.2.2)]
      exact ⟨rfl, rfl⟩
  · rw [if_neg (fun z => hr ⟨by omega, by omega⟩), if_neg (fun z => hr ⟨by omega, by omega⟩), if_neg (fun z => hr ⟨z.1, z.2.1⟩), if_neg (fun z => hr ⟨z.1, z.2.1⟩)]
    exact ⟨rfl, rfl⟩
theorem SW_oT {pt : Nat → Int32} {cs : Nat → Bool} {T : TS} (hS : SW pt cs) (hW : WF pt T none) : SW (oT T pt cs).2.1 (oT T pt cs).2.2 := by
  have h48 := hW.1.1
  have lo : ∀ i, i < 300 ∨ 348 ≤ i → (oT T pt cs).2.1 i = pt i ∧ (oT T pt cs).2.2 i = cs i := fun i hi => by
    rw [(oT_sg hW i).1, (oT_sg hW i).2, if_neg (fun z => by omega), if_neg (fun z => by omega)]
    exact ⟨rfl, rfl⟩
  refine ⟨fun i hi => ?_, fun i hi => by rw [(lo i (by omega)).1]; exact hS.2.1 i hi, fun c hc => by rw [(lo _ (by omega)).1]; exact hS.2.2.1 c hc, fun f hf => by rw [(lo _ (by omega)).1]; exact hS.2.2.2.1 f hf, by rw [(lo _ (by omega)).1]; exact hS.2.2.2.2.1, fun i hi h => ?_⟩
  · rw [(oT_sg hW i).1]
    by_cases hc : 300 ≤ i ∧ i < 300 + tN T ∧ fnT T (i - 300) = true
    · rw [if_pos hc]
      exact ⟨_, by have := (pF_len (n := i - 300) hW (by omega)).1; omega, rfl⟩
    · rw [if_neg hc]
      exact hS.1 i hi
  · rw [(oT_sg hW i).2] at h
    rw [(oT_sg hW i).1]
    by_cases hc : 300 ≤ i ∧ i < 300 + tN T ∧ fnT T (i - 300) = true
    · rw [if_pos hc] at h ⊢
      have := pF_len (n := i - 300) hW (by omega)
      have h1 := this.2 (of_decide_eq_true h)
      refine ⟨by omega, by omega, fun z => ?_⟩
      have := (nI_z (by omega)).mp z
      omega
    · rw [if_neg hc] at h ⊢
      exact hS.2.2.2.2.2 i hi h
