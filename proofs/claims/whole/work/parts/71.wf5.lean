/-! pure: step and split -/
def vA (pt : Nat → Int32) (V : Nat) (zs : List Int32) (k : Nat) : Prop := gA pt V k ∧ (k < 100 → nI k ∈ zs)
theorem al.vA {pt : Nat → Int32} {V : Nat} {zs : List Int32} (h : al (gA pt V) zs) : al (vA pt V zs) zs := fun s hs => by
  obtain ⟨k, h1, h2, h3⟩ := h s hs
  exact ⟨k, h1, h2, h3, fun _ => h2 ▸ hs⟩
theorem uL_vA {pt : Nat → Int32} {cs : Nat → Bool} {bd : Nat → List Int32} {V : Nat} {zs : List Int32} {a : Nat} {g : Nat → Nat} (hW : SW pt cs) (hB : BdW pt cs bd) (hz : zs.length ≤ 10000) (hf : tmq (nP (sgP pt)) (gA pt V) zs) (ha : a < zs.length) (hc : isC (zs.getD a (-1)) = true) (hu : ufs cs (fun s x => (sB bd s x).map g) zs a = true) : tmq (nP (sgP pt)) (vA pt V zs) (uL pt cs bd zs a) := by
  have hf' : tmq (nP (sgP pt)) (vA pt V zs) zs := ⟨hf.1, hf.2.vA⟩
  obtain ⟨h1, b, h2⟩ := call_parts hW hz hf' ha
  refine unf_tm hW.ok.1 hz hf' ha h1 h2 (call_body hW hB hf.2 ha hc hu) ?_ ?_
  · intro k hk hB
    refine ⟨hW.v hk, k, ?_, rfl⟩
    unfold gA at hB
    omega
  · intro k h1 h2 h3
    refine ⟨?_, fun z => by omega⟩
    unfold gA at h3 ⊢
    rcases h3 with h3 | h3 | h3
    · omega
    · exact Or.inr (Or.inl h3)
    · exact Or.inr (Or.inr h3)
theorem vA_sub {pt : Nat → Int32} {V : Nat} {zs l : List Int32} (h : al (vA pt V zs) l) : vsub l zs := fun s hs hv => by
  obtain ⟨k, h1, rfl, h3⟩ := h s hs
  rw [isV_n (by omega)] at hv
  exact h3.2 (of_decide_eq_true hv)
theorem PK_step {pt : Nat → Int32} {cs : Nat → Bool} {bd : Nat → List Int32} {T : TS} {n a : Nat} {g : Nat → Nat} (hS : SW pt cs) (hB : BdW pt cs bd) (hW : WF pt T none) (hn : n < tN T) (h8 : kd T n = 8) (h0 : isC ((tmn T n).getD 0 (-1)) = true) (ha : a < (tmn T n).length) (hc : isC ((tmn T n).getD a (-1)) = true) (hu : ufs cs (fun s x => (sB bd s x).map g) (tmn T n) a = true) (hg : tG (tStep pt cs bd T n a) = false) : PK pt T (tStep pt cs bd T n a) n ∧ (uL pt cs bd (tmn T n) a).length ≤ 40 := by
  have hz : (tmn T n).length ≤ 10000 := by have := (hW.1.2.2 n hn).1; unfold tmn; omega
  obtain ⟨h1, h2⟩ := hW.bec hn h8 (k := 3) (v := -1) ⟨3, by omega, rfl⟩ (by decide) (fun _ => h0) (fun z => absurd z (by decide)) (fun z => absurd z (by decide)) (fun _ => rfl)
  have hL := uL_vA hS hB hz (hW.2.2 n hn).1.1 ha hc hu
  unfold tStep at hg ⊢
  rw [hW.t40 hn] at hg ⊢
  have hfl := (tAdd_ok hg).2.2.1
  have hlen : (uL pt cs bd (tmn T n) a).length ≤ 40 := Nat.not_lt.mp (of_decide_eq_false hfl)
  rw [List.take_of_length_le hlen] at hg ⊢
  refine ⟨?_, hlen⟩
  have hkd : kd (tUp T n (nBecome (tD T n) 3 (-1))) n = 3 := by unfold kd; rw [tD_up]; rfl
  obtain ⟨a1, a2, a3, a4, a5, a6, _⟩ := h1.add hn h2 (show tN T + 0 = tN T from rfl) (by rw [hkd]; decide) (hL.mono (fun k _ z => z.1)) hg
  generalize (tAdd (tUp T n (nBecome (tD T n) 3 (-1))) (some n) (uL pt cs bd (tmn T n) a) (decide (40 < (uL pt cs bd (tmn T n) a).length))).1 = T' at *
  have hk' : kd T' n = 3 := by unfold kd at hkd ⊢; rw [(a6 n hn).1]; exact hkd
  have a5' : tmn T' (tN T) = uL pt cs bd (tmn T n) a := a5
  have htn : tmn T' n = tmn T n := by
    rw [(a6 n hn).2]
    show ntm _ = _
    rw [tD_up]; rfl
  refine ⟨a1.close (fun _ => ⟨_, _, a2, ?_, ?_, ?_, ?_⟩), by have : tN T' = tN T + 1 := a3; omega, fun m hm hm8 => ?_⟩
  · intro z; rw [hk'] at z; exact absurd z (by decide)
  · intro _
    refine ⟨rfl, ?_⟩
    rw [a5', htn]
    exact vA_sub hL.2
  · intro z; rw [hk'] at z; exact absurd z (by decide)
  · intro z; rw [hk'] at z; exact absurd z (by decide)
  · by_cases e : m = n
    · subst e; rw [hk'] at hm8; exact absurd hm8 (by decide)
    · unfold kd at hm8 ⊢
      rw [(a6 m hm).1, tD_ne e] at hm8
      exact ⟨hm8, e⟩
/-- the call that is next: all signs up to it are calls -/
theorem nxc_pre {cs : Int32 → Bool} : ∀ {zs : List Int32} {a : Nat}, isC (zs.getD 0 (-1)) = true → nxc cs zs = some a → ∀ i, i ≤ a → isC (zs.getD i (-1)) = true
  | [], a, h, _, _, _ => absurd h (by decide)
  | x :: l, a, h, he, i, hi => by
    unfold nxc at he
    have h0 : isC x = true := h
    split at he
    · cases he
      obtain rfl : i = 0 := by omega
      exact h
    · next z =>
      have hl : isC (l.getD 0 (-1)) = true := by
        generalize isC (l.getD 0 (-1)) = q at z ⊢
        rw [h0] at z
        revert z
        cases q <;> cases cs x <;> simp
      rcases e : nxc cs l with _ | r
      · rw [e] at he; cases he
      · rw [e] at he
        have : a = r + 1 := (Option.some.inj he).symm
        cases i with
        | zero => exact h
        | succ i => exact nxc_pre hl e i (by omega)
theorem tNK_spec {pt : Nat → Int32} {h : Option Nat} : ∀ {k : Nat} {T : TS} {l : List Int32}, WF pt T h → tG (tNK k T l).1 = false → WF pt (tNK k T l).1 h ∧ tV (tNK k T l).1 = tV T + k ∧ tV T + k ≤ 100 ∧ (tNK k T l).2 = l ++ (List.range k).map (fun i => nI (tV T + i))
  | 0, T, l, hW, hg => ⟨hW, rfl, hW.1.2.1, by simp [tNK]⟩
  | k + 1, T, l, hW, hg => by
    obtain ⟨a1, a2, a3, a4⟩ := hW.new (nG (fun z => tNK_G (k := k) (l := l ++ [(tNew T).2]) z) hg)
    obtain ⟨b1, b2, b3, b4⟩ := tNK_spec (k := k) (T := (tNew T).1) (l := l ++ [(tNew T).2]) a1 hg
    refine ⟨b1, by show tV (tNK k (tNew T).1 (l ++ [(tNew T).2])).1 = _; rw [b2, a2]; omega, by rw [a2] at b3; omega, ?_⟩
    show (tNK k (tNew T).1 (l ++ [(tNew T).2])).2 = _
    rw [b4, a2, a4, List.append_assoc]
    congr 1
    rw [List.range_succ_eq_map, List.map_cons, List.map_map]
    show _ :: _ = _ :: _
    congr 1
    apply List.map_congr_left
    intro i _
    show nI (tV T + 1 + i) = nI (tV T + (i + 1))
    congr 1
    omega
theorem flat_pre {F : Int32 → List Int32} : ∀ {zs : List Int32} {a : Nat}, a ≤ zs.length → (∀ i, i < a → F (zs.getD i (-1)) = [zs.getD i (-1)]) → zs.flatMap F = zs.take a ++ (zs.drop a).flatMap F
  | zs, 0, _, _ => rfl
  | [], a + 1, h, _ => absurd h (Nat.not_succ_le_zero _)
  | s :: l, a + 1, h, hp => by
    have ih := flat_pre (F := F) (zs := l) (a := a) (Nat.le_of_succ_le_succ h) (fun i hi => hp (i + 1) (by omega))
    have h0 := hp 0 (by omega)
    rw [List.flatMap_cons, ih]
    have : F s = [s] := h0
    rw [this]
    rfl
/-- the clause's row: the variable v is replaced by the pattern -/
theorem rep_spec {pt : Nat → Int32} {cs : Nat → Bool} {zs : List Int32} {a c V v : Nat} (hS : SW pt cs) (hz : tmq (nP (sgP pt)) (gA pt V) zs) (hV : V + qK c ≤ 100) (hc6 : c < 6) (hv : v < 100) (hpre : ∀ i, i ≤ a → isC (zs.getD i (-1)) = true) (ha : a + 1 < zs.length) (hav : zs.getD (a + 1) (-1) = nI v) :
    tmq (nP (sgP pt)) (gA pt (V + qK c)) (zs.flatMap (sbV (nI v) ([nI (100 + c)] ++ (List.range (qK c)).map (fun i => nI (V + i))))) ∧
    (zs.flatMap (sbV (nI v) ([nI (100 + c)] ++ (List.range (qK c)).map (fun i => nI (V + i))))).getD a (-1) = zs.getD a (-1) ∧
    (zs.flatMap (sbV (nI v) ([nI (100 + c)] ++ (List.range (qK c)).map (fun i => nI (V + i))))).getD (a + 1) (-1) = nI (100 + c) ∧
    a + 1 < (zs.flatMap (sbV (nI v) ([nI (100 + c)] ++ (List.range (qK c)).map (fun i => nI (V + i))))).length ∧
    (∀ s ∈ zs.flatMap (sbV (nI v) ([nI (100 + c)] ++ (List.range (qK c)).map (fun i => nI (V + i)))), isV s = true → (s ∈ zs ∧ s ≠ nI v) ∨ ∃ j, j < qK c ∧ s = nI (V + j)) := by
  have hpat : full (nP (sgP pt)) 1 ([nI (100 + c)] ++ (List.range (qK c)).map (fun i => nI (V + i))) = true := by
    show full _ (0 + nP (sgP pt) (nI (100 + c))) _ = true
    rw [hS.k hc6, Nat.zero_add]
    have : ∀ (q W : Nat), W + q ≤ 100 → full (nP (sgP pt)) q ((List.range q).map (fun i => nI (W + i))) = true := by
      intro q
      induction q with
      | zero => intro W _; rfl
      | succ q ih =>
        intro W hW
        rw [List.range_succ_eq_map, List.map_cons, List.map_map]
        show full _ (q + nP (sgP pt) (nI (W + 0))) _ = true
        rw [hS.v (show W + 0 < 100 by omega), Nat.add_zero]
        have := ih (W + 1) (by omega)
        have e : (fun i => nI (W + i)) ∘ Nat.succ = fun i => nI (W + 1 + i) := by
          funext i
          show nI (W + (i + 1)) = _
          congr 1
          omega
        rw [e]
        exact this
    exact this _ _ hV
  have hpal : al (gA pt (V + qK c)) ([nI (100 + c)] ++ (List.range (qK c)).map (fun i => nI (V + i))) := by
    intro s hs
    rcases List.mem_append.mp hs with h | h
    · rw [List.mem_singleton.mp h]
      exact ⟨100 + c, by omega, rfl, Or.inr (Or.inl ⟨by omega, by omega⟩)⟩
    · obtain ⟨i, hi, rfl⟩ := List.mem_map.mp h
      have := List.mem_range.mp hi
      exact ⟨V + i, by omega, rfl, Or.inl ⟨by omega, by omega⟩⟩
  have hnotC : ∀ i, i ≤ a → sbV (nI v) ([nI (100 + c)] ++ (List.range (qK c)).map (fun i => nI (V + i))) (zs.getD i (-1)) = [zs.getD i (-1)] := by
    intro i hi
    unfold sbV
    rw [if_neg]
    intro z
    have := hpre i hi
    rw [z.2, isC_n (by omega)] at this
    have := of_decide_eq_true this
    omega
  have hfl := flat_pre (F := sbV (nI v) ([nI (100 + c)] ++ (List.range (qK c)).map (fun i => nI (V + i)))) (zs := zs) (a := a + 1) (by omega) (fun i hi => hnotC i (by omega))
  have hd : (zs.drop (a + 1)).flatMap (sbV (nI v) ([nI (100 + c)] ++ (List.range (qK c)).map (fun i => nI (V + i)))) = nI (100 + c) :: ((List.range (qK c)).map (fun i => nI (V + i)) ++ (zs.drop (a + 2)).flatMap (sbV (nI v) ([nI (100 + c)] ++ (List.range (qK c)).map (fun i => nI (V + i))))) := by
    rw [drop_cons ha, List.flatMap_cons, hav]
    have : sbV (nI v) ([nI (100 + c)] ++ (List.range (qK c)).map (fun i => nI (V + i))) (nI v) = [nI (100 + c)] ++ (List.range (qK c)).map (fun i => nI (V + i)) := by
      unfold sbV
      rw [if_pos ⟨by rw [isV_n (by omega), decide_eq_true hv], rfl⟩]
    rw [this]
    rfl
  rw [hd] at hfl
  have hta : (zs.take (a + 1)).length = a + 1 := by rw [List.length_take]; omega
  refine ⟨⟨full_flat (fun s hs => ?_) hz.1, ?_⟩, ?_, ?_, ?_, ?_⟩
  · unfold sbV
    split
    · next e =>
      obtain ⟨k, h1, h2, h3⟩ := hz.2 s hs
      left
      refine ⟨?_, hpat⟩
      rw [e.2]
      exact hS.v hv
    · exact Or.inr rfl
  · intro t ht
    obtain ⟨s, hs, hts⟩ := List.mem_flatMap.mp ht
    unfold sbV at hts
    split at hts
    · exact hpal t hts
    · rw [List.mem_singleton.mp hts]
      obtain ⟨k, h1, h2, h3⟩ := hz.2 s hs
      refine ⟨k, h1, h2, ?_⟩
      unfold gA at h3 ⊢
      rcases h3 with h3 | h3 | h3
      · exact Or.inl ⟨by omega, h3.2⟩
      · exact Or.inr (Or.inl h3)
      · exact Or.inr (Or.inr h3)
  · rw [hfl, List.getD_eq_getElem?_getD, List.getElem?_append_left (by omega), List.getElem?_take_of_lt (by omega), ← List.getD_eq_getElem?_getD]
  · rw [hfl, List.getD_eq_getElem?_getD, List.getElem?_append_right (by omega), hta, Nat.sub_self]
    rfl
  · rw [hfl, List.length_append, hta, List.length_cons]
    omega
  · intro t ht hvt
    obtain ⟨s, hs, hts⟩ := List.mem_flatMap.mp ht
    unfold sbV at hts
    split at hts
    · rcases List.mem_append.mp hts with h | h
      · rw [List.mem_singleton.mp h, isV_n (by omega)] at hvt
        have := of_decide_eq_true hvt
        omega
      · obtain ⟨i, hi, rfl⟩ := List.mem_map.mp h
        exact Or.inr ⟨i, List.mem_range.mp hi, rfl⟩
    · next e =>
      rw [List.mem_singleton.mp hts] at hvt ⊢
      exact Or.inl ⟨hs, fun z => e ⟨hvt, z⟩⟩
