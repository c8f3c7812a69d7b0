/-! what every call keeps: csW -/
theorem full_cg {p q : Int32 → Nat} : ∀ {l : List Int32} {m : Nat}, (∀ s ∈ l, q s = p s) → full p m l = true → full q m l = true
  | [], 0, _, h => h
  | [], _ + 1, _, h => by cases h
  | _ :: _, 0, _, h => by cases h
  | s :: l, m + 1, hs, h => by
    have h' : full p (m + p s) l = true := h
    show full q (m + q s) l = true
    rw [hs s List.mem_cons_self]
    exact full_cg (fun t ht => hs t (List.mem_cons_of_mem _ ht)) h'
theorem tmq.tab {pt pt' : Nat → Int32} {A A' : Nat → Prop} {l : List Int32} (h : tmq (nP (sgP pt)) A l) (hA : ∀ k, k ≤ 400 → A k → A' k ∧ pt' k = pt k) : tmq (nP (sgP pt')) A' l := by
  refine ⟨full_cg (fun s hs => ?_) h.1, fun s hs => ?_⟩
  · obtain ⟨k, hk, rfl, ha⟩ := h.2 s hs
    unfold nP
    rw [sgP_n (by omega), sgP_n (by omega), (hA k hk ha).2]
  · obtain ⟨k, hk, e, ha⟩ := h.2 s hs
    exact ⟨k, hk, e, (hA k hk ha).1⟩
theorem trm_tm {pt : Nat → Int32} {cs : Nat → Bool} (hS : SW pt cs) : ∀ {zs : List Int32} {m : Nat}, al tA zs → m + 60 * zs.length ≤ 100000 → trm (sgP pt) zs (nI m) = true → full (nP (sgP pt)) m zs = true ∧ al (gA pt 8) zs
  | [], m, _, hm, h => by
    have h' : decide (nI m = 0) = true := h
    have : m = 0 := (nI_z (by omega)).mp (of_decide_eq_true h')
    subst this
    exact ⟨rfl, fun s hs => (by cases hs)⟩
  | s :: l, m, ha, hm, h => by
    obtain ⟨k, hk4, rfl, hA⟩ := ha s List.mem_cons_self
    rw [List.length_cons] at hm
    have hq := hS.ok.1.le (nI k)
    rw [trm_c] at h
    have hm0 : m ≠ 0 := fun z => by rw [z, nI_0, if_pos rfl] at h; cases h
    rw [if_neg (fun z => hm0 ((nI_z (by omega)).mp z))] at h
    by_cases hc : (isC (nI k) && decide (sgP pt (nI k) = 0)) = true
    · rw [if_pos hc] at h; cases h
    have e : nI m + (sgP pt (nI k) - 1) = nI (m - 1 + nP (sgP pt) (nI k)) := by
      rw [hq.2, nI_ap1 (by omega)]
      exact congrArg nI (by omega)
    rw [if_neg hc, e] at h
    obtain ⟨i1, i2⟩ := trm_tm hS (zs := l) (m := m - 1 + nP (sgP pt) (nI k)) (fun t ht => ha t (List.mem_cons_of_mem _ ht)) (by omega) h
    obtain ⟨m, rfl⟩ : ∃ r, m = r + 1 := ⟨m - 1, by omega⟩
    refine ⟨?_, fun t ht => ?_⟩
    · show full _ (m + _) l = true
      rw [Nat.add_sub_cancel] at i1
      exact i1
    · rcases List.mem_cons.mp ht with e | e
      · refine ⟨k, hk4, e, ?_⟩
        rcases hA with z | z | z
        · exact Or.inl ⟨z, by omega⟩
        · exact Or.inr (Or.inl z)
        · refine Or.inr (Or.inr ⟨z.1, z.2, fun y => hc ?_⟩)
          rw [isC_n (by omega), sgP_n (by omega), y, decide_eq_true z.1]
          rfl
      · exact i2 t e
theorem trm1 {pt : Nat → Int32} {cs : Nat → Bool} {zs : List Int32} (hS : SW pt cs) (ha : al tA zs) (hl : zs.length ≤ 24) (h : trm (sgP pt) zs 1 = true) : tmq (nP (sgP pt)) (gA pt 8) zs :=
  trm_tm hS (m := 1) ha (by omega) (by rw [show nI 1 = (1 : Int32) from rfl]; exact h)
theorem csW.nil {X : CS} (h : csW X) : csW ([], X.2) := ⟨⟨fun s hs => (by cases hs), by show 0 ≤ 24; omega⟩, h.2⟩
theorem sg_leafA {c : Int32} {lo hi A B : Nat} {P : Nat → Prop} (h1 : ¬ c < nI lo) (h2 : ¬ nI hi < c) (hl : lo ≤ 1000) (hh : hi ≤ 1000) (hA : A ≤ 1000) (hB : B ≤ A + lo) (hP : ∀ k, A + lo - B ≤ k → k ≤ A + hi - B → k ≤ 400 ∧ P k) : ∃ k, k ≤ 400 ∧ nI A + c - nI B = nI k ∧ P k := by
  have h0 : ¬ c < 0 := fun z => h1 (by
    have b := Int32.lt_iff_toInt_lt.mp z
    have q0 : (0 : Int32).toInt = 0 := by decide
    apply Int32.lt_iff_toInt_lt.mpr
    rw [nI_toInt (by omega)]
    omega)
  obtain ⟨k, hk, rfl⟩ := nI_of h0
  have a1 : lo ≤ k := Nat.not_lt.mp fun z => h1 (nI_lt z (by omega))
  have a2 : k ≤ hi := Nat.not_lt.mp fun z => h2 (nI_lt z hk)
  rw [nI_add, nI_sub (by omega)]
  obtain ⟨p1, p2⟩ := hP (A + k - B) (by omega) (by omega)
  exact ⟨_, p1, rfl, p2⟩
theorem sgn_tA {c : Int32} (h : sgn c ≠ -1) : ∃ k, k ≤ 400 ∧ sgn c = nI k ∧ tA k := by
  have L1 : ¬ c < 48 → ¬ 55 < c → ∃ k, k ≤ 400 ∧ 200 + c - 48 = nI k ∧ tA k := fun a b => sg_leafA (lo := 48) (hi := 55) (A := 200) (B := 48) a b (by decide) (by decide) (by decide) (by decide) (fun k z1 z2 => ⟨by omega, by unfold tA; omega⟩)
  have L2 : ¬ c < 75 → ¬ 80 < c → ∃ k, k ≤ 400 ∧ 100 + c - 75 = nI k ∧ tA k := fun a b => sg_leafA (lo := 75) (hi := 80) (A := 100) (B := 75) a b (by decide) (by decide) (by decide) (by decide) (fun k z1 z2 => ⟨by omega, by unfold tA; omega⟩)
  have L3 : ¬ c < 97 → ¬ 104 < c → ∃ k, k ≤ 400 ∧ c - 97 = nI k ∧ tA k := fun a b => by
    have := sg_leafA (lo := 97) (hi := 104) (A := 0) (B := 97) (P := tA) a b (by decide) (by decide) (by decide) (by decide) (fun k z1 z2 => ⟨by omega, by unfold tA; omega⟩)
    rw [nI_0, Int32.zero_add] at this
    exact this
  unfold sgn at h ⊢
  by_cases h1 : c < 97 <;> by_cases h2 : 104 < c <;> by_cases h3 : c < 75 <;> by_cases h4 : 80 < c <;> by_cases h5 : c < 48 <;> by_cases h6 : 55 < c <;> simp only [h1, h2, h3, h4, h5, h6, if_true, if_false] at h ⊢ <;> first | exact absurd rfl h | exact L1 h5 h6 | exact L2 h3 h4 | exact L3 h1 h2
theorem csW.typ {X : CS} {v : Int64} (h : csW X) : csW (csTyp X v) := by
  unfold csTyp
  split
  · next z =>
    unfold typOK at z
    rw [Bool.and_eq_true_iff] at z
    refine ⟨⟨h.1.1.app (fun s hs => ?_), ?_⟩, h.2⟩
    · obtain ⟨c, hc, rfl⟩ := List.mem_map.mp hs
      exact sgn_tA (of_decide_eq_true (List.all_eq_true.mp z.1 c hc))
    · show (kT X ++ (ltrs v 8).map sgn).length ≤ 24
      rw [List.length_append, List.length_map]
      exact of_decide_eq_true z.2
  · exact h
/-- the tables may change where no term speaks of them -/
theorem csW.tab {X : CS} {pt : Nat → Int32} {cs : Nat → Bool} {T : TS} (h : csW X) (hS : SW pt cs) (hp : ∀ k, k < 200 → pt k = kP X k) (hf : ∀ f, f < 8 → kP X (200 + f) ≠ 0 → pt (200 + f) = kP X (200 + f) ∧ cs (200 + f) = kC X (200 + f)) : csW (X.1, X.2.1, X.2.2.1, pt, cs, X.2.2.2.2.2.1, T, X.2.2.2.2.2.2.2) := by
  obtain ⟨h1, h2, h3, h4, h5, h6⟩ := h
  have hg : ∀ V k, gA (kP X) V k → gA pt V k ∧ pt k = kP X k := fun V k z => by
    rcases z with z | z | z
    · exact ⟨Or.inl z, hp k (by omega)⟩
    · exact ⟨Or.inr (Or.inl z), hp k (by omega)⟩
    · have := hf (k - 200) (by omega) (by rw [show 200 + (k - 200) = k by omega]; exact z.2.2)
      rw [show 200 + (k - 200) = k by omega] at this
      exact ⟨Or.inr (Or.inr ⟨z.1, z.2.1, by rw [this.1]; exact z.2.2⟩), this.1⟩
  refine ⟨h1, hS, fun f c hf8 hc hne => ?_, ⟨h4.1, fun z => (h4.2 z).tab (fun k _ z => hg 8 k z)⟩, fun v hv => ⟨(h5 v hv).1, fun z => ((h5 v hv).2 z).tab (fun k _ z => ⟨z, hp k (by unfold kA at z; omega)⟩)⟩, h6⟩
  obtain ⟨a1, a2, a3, a4⟩ := h3 f c hf8 hc hne
  have e := hf f hf8 a1
  have el : lim pt cs f c = lim (kP X) (kC X) f c := by
    unfold lim nP
    rw [e.2, sgP_n (by omega), sgP_n (by omega), e.1]
  show pt (200 + f) ≠ 0 ∧ (kB X (6 * f + c)).length ≤ 24 ∧ tmq (nP (sgP pt)) (gA pt (lim pt cs f c)) (kB X (6 * f + c)) ∧ (cs (200 + f) = false → c = 0)
  refine ⟨by rw [e.1]; exact a1, a2, ?_, fun z => a4 (by rw [← e.2]; exact z)⟩
  rw [el]
  exact a3.tab (fun k _ z => hg _ k z)
theorem csW.tr {X : CS} {T : TS} (h : csW X) : csW (kTr X T) := h
theorem fn_of {f n : Int32} (h : fnBad f n = false) : ∃ g q, g < 8 ∧ 1 ≤ q ∧ q ≤ 3 ∧ f = nI g ∧ n = nI q := by
  unfold fnBad at h
  split at h
  · cases h
  · next a =>
    split at h
    · cases h
    · next b =>
      split at h
      · cases h
      · next c =>
        split at h
        · next e =>
          obtain ⟨g, hg, rfl⟩ := nI_of a
          obtain ⟨q, hq, rfl⟩ := nI_of (show ¬ n < 0 from fun z => c (Int32.lt_trans z (by decide)))
          refine ⟨g, q, ?_, ?_, ?_, rfl, rfl⟩
          · exact Nat.not_le.mp fun z => b (show nI 8 ≤ nI g from nI_le z hg)
          · exact Nat.not_lt.mp fun z => c (show nI q < nI 1 from nI_lt z (by decide))
          · exact (nI_leI hq (by decide)).mp (show nI q ≤ nI 3 from e)
        · cases h
theorem csW.fn {X : CS} {f n : Int32} {b : Bool} (h : csW X) (hb : fnBad f n = false) (hd : dcl (kP X) f = false) : csW (csFn X f n b) := by
  obtain ⟨g, q, hg, h1, h3, rfl, rfl⟩ := fn_of hb
  have hS := h.2.1
  have hp0 : kP X (200 + g) = 0 := (dcl_n hS hg).2.mpr hd
  have ec : (nI g).toNatClampNeg = g := nI_clamp (by omega)
  unfold csFn
  rw [ec]
  have u : ∀ i, i ≠ 200 + g → upN (kP X) (200 + g) (nI q) i = kP X i ∧ upN (kC X) (200 + g) b i = kC X i := fun i hi => by
    unfold upN; rw [if_neg hi, if_neg hi]; exact ⟨rfl, rfl⟩
  have us : upN (kP X) (200 + g) (nI q) (200 + g) = nI q := by unfold upN; rw [if_pos rfl]
  obtain ⟨s1, s2, s3, s4, s5, s6⟩ := id hS
  refine h.tab (pt := upN (kP X) (200 + g) (nI q)) (cs := upN (kC X) (200 + g) b) ⟨fun i hi => ?_, fun i hi => ?_, fun c hc => ?_, fun f hf => ?_, ?_, fun i hi hc => ?_⟩ (fun k hk => (u k (by omega)).1) (fun f hf hne => ?_)
  · by_cases e : i = 200 + g
    · rw [e, us]; exact ⟨q, by omega, rfl⟩
    · rw [(u i e).1]; exact s1 i hi
  · rw [(u i (by omega)).1]; exact s2 i hi
  · rw [(u _ (by omega)).1]; exact s3 c hc
  · by_cases e : f = g
    · rw [e, us]; exact ⟨q, h3, rfl⟩
    · rw [(u _ (by omega)).1]; exact s4 f hf
  · rw [(u _ (by omega)).1]; exact s5
  · by_cases e : i = 200 + g
    · rw [e, us]
      exact ⟨by omega, by omega, fun z => absurd ((nI_z (by omega)).mp z) (by omega)⟩
    · rw [(u i e).2] at hc
      rw [(u i e).1]
      exact s6 i hi hc
  · have : f ≠ g := fun z => hne (by rw [z]; exact hp0)
    exact u _ (by omega)
theorem okv_lt {n : Nat} {zs : List Int32} {k : Nat} (h : zs.all (okv (nI n)) = true) (hn : n < 1000) (hm : nI k ∈ zs) (hk : k < 100) : k < n := by
  have := List.all_eq_true.mp h _ hm
  rw [okv_n (by omega), if_pos hk] at this
  exact (nI_ltI (by omega) (by omega)).mp (of_decide_eq_true this)
theorem mhc_tm {X : CS} {n : Nat} (hS : SW (kP X) (kC X)) (ha : al tA (kT X)) (hl : (kT X).length ≤ 24) (hn : n < 1000) (h : mhc (kP X) (kT X) (nI n) = true) : tmq (nP (sgP (kP X))) (gA (kP X) n) (kT X) := by
  unfold mhc at h
  rw [Bool.and_eq_true_iff] at h
  have ht := trm1 hS ha hl h.2
  refine ⟨ht.1, fun s hs => ?_⟩
  obtain ⟨k, hk, rfl, hg⟩ := ht.2 s hs
  refine ⟨k, hk, rfl, ?_⟩
  rcases hg with z | z | z
  · exact Or.inl ⟨okv_lt h.1 hn hs z.2, z.2⟩
  · exact Or.inr (Or.inl z)
  · exact Or.inr (Or.inr z)
theorem dcl_of {pt : Nat → Int32} {cs : Nat → Bool} {f : Int32} (hS : SW pt cs) (h : dcl pt f = true) : ∃ g, g < 8 ∧ f = nI g ∧ pt (200 + g) ≠ 0 := by
  have h0 := h
  unfold dcl at h
  split at h
  · cases h
  · next a =>
    split at h
    · cases h
    · next b =>
      obtain ⟨g, hg, rfl⟩ := nI_of a
      have hg8 : g < 8 := Nat.not_le.mp fun z => b (show nI 8 ≤ nI g from nI_le z hg)
      exact ⟨g, hg8, rfl, fun z => by rw [(dcl_n hS hg8).2.mp z] at h0; cases h0⟩
theorem csW.bd1 {X : CS} {g c : Nat} {T : TS} {tx : List Int32} (h : csW X) (hg : g < 8) (hc : c < 6) (hp : kP X (200 + g) ≠ 0) (htx : al tA tx ∧ tx.length ≤ 24) (hc0 : kC X (200 + g) = false → c = 0) (ht : tmq (nP (sgP (kP X))) (gA (kP X) (lim (kP X) (kC X) g c)) (kT X)) : csW (tx, X.2.1, X.2.2.1, X.2.2.2.1, X.2.2.2.2.1, upN X.2.2.2.2.2.1 (6 * g + c) (kT X), T, X.2.2.2.2.2.2.2) := by
  obtain ⟨h1, h2, h3, h4, h5, h6⟩ := h
  refine ⟨htx, h2, fun f d hf hd hne => ?_, h4, h5, h6⟩
  have hne' : upN X.2.2.2.2.2.1 (6 * g + c) (kT X) (6 * f + d) ≠ [] := hne
  show _ ∧ (upN X.2.2.2.2.2.1 (6 * g + c) (kT X) (6 * f + d)).length ≤ 24 ∧ tmq _ _ (upN X.2.2.2.2.2.1 (6 * g + c) (kT X) (6 * f + d)) ∧ _
  by_cases e : 6 * f + d = 6 * g + c
  · have e1 : f = g := by omega
    have e2 : d = c := by omega
    subst e1 e2
    have ue : upN X.2.2.2.2.2.1 (6 * f + d) (kT X) (6 * f + d) = kT X := by unfold upN; rw [if_pos rfl]
    rw [ue]
    exact ⟨hp, h1.2, ht, hc0⟩
  · have ue : upN X.2.2.2.2.2.1 (6 * g + c) (kT X) (6 * f + d) = kB X (6 * f + d) := by unfold upN; rw [if_neg e]; rfl
    rw [ue] at hne' ⊢
    exact h3 f d hf hd hne'
theorem csW.bd {X : CS} {f x : Int32} (h : csW X) (hd : dcl (kP X) f = true) (hm : mhv (kP X) (kC X) f x (kT X) = true) : csW (csBd X f x) := by
  have hS := h.2.1
  obtain ⟨g, hg, rfl, hp⟩ := dcl_of hS hd
  have e2 : (200 : Int32) + nI g = nI (200 + g) := nI_add 200 g
  obtain ⟨m, hm3, em⟩ := hS.2.2.2.1 g hg
  have hm0 : m ≠ 0 := fun z => hp (by rw [em, z]; rfl)
  have enp : nP (sgP (kP X)) (nI (200 + g)) = m := by unfold nP; rw [sgP_n (by omega), em, nI_clamp (by omega)]
  have hnil : al tA ([] : List Int32) ∧ ([] : List Int32).length ≤ 24 := ⟨fun s hs => (by cases hs), by decide⟩
  unfold mhv at hm
  rw [e2, sgC_n (by omega), sgP_n (by omega), em] at hm
  unfold csBd
  rw [e2]
  cases hcs : kC X (200 + g) with
  | true =>
    rw [hcs, if_pos rfl] at hm
    split at hm
    · cases hm
    · next a =>
      split at hm
      · next b =>
        obtain ⟨c, hc, rfl⟩ := nI_of a
        have hc6 : c < 6 := (nI_ltI hc (by decide)).mp (show nI c < nI 6 from b)
        have hq := qK_nat c
        rw [(plc_n hg).2 c hc6]
        rw [hq.2, nI_ap1 (by omega)] at hm
        refine h.bd1 hg hc6 hp hnil (fun z => by rw [hcs] at z; cases z) ?_
        have : lim (kP X) (kC X) g c = m + qK c - 1 := by unfold lim; rw [hcs, if_pos rfl, enp]
        rw [this]
        exact mhc_tm hS h.1.1 h.1.2 (by omega) hm
      · cases hm
  | false =>
    rw [hcs, if_neg (by decide)] at hm
    split at hm
    · next a =>
      subst a
      rw [(plc_n hg).1]
      refine h.bd1 (c := 0) hg (by omega) hp hnil (fun _ => rfl) ?_
      have : lim (kP X) (kC X) g 0 = m := by unfold lim; rw [hcs, if_neg (by decide), enp]
      rw [this]
      exact mhc_tm hS h.1.1 h.1.2 (by omega) hm
    · cases hm
theorem csW.gl' {X : CS} (h : csW X) (ht : trm (sgP (kP X)) (kT X) 1 = true) : csW (csGl X) := by
  obtain ⟨h1, h2, h3, h4, h5, h6⟩ := id h
  exact ⟨⟨fun s hs => (by cases hs), by show 0 ≤ 24; omega⟩, h2, h3, ⟨h1.2, fun _ => trm1 h2 h1.1 h1.2 ht⟩, h5, h6⟩
theorem csW.inp {X : CS} {v : Int32} (h : csW X) : csW (csInp X v) := by
  unfold csInp
  split
  · next z =>
    obtain ⟨h1, h2, h3, h4, h5, h6⟩ := id h
    unfold inpOK at z
    split at z
    · cases z
    · next a =>
      split at z
      · cases z
      · next b =>
        obtain ⟨g, hg, rfl⟩ := nI_of a
        rw [Bool.and_eq_true_iff] at z
        have ht := trm1 h2 h1.1 h1.2 z.2
        have hk : tmq (nP (sgP (kP X))) kA (kT X) := ⟨ht.1, fun s hs => by
          obtain ⟨k, hk, rfl, _⟩ := ht.2 s hs
          have := List.all_eq_true.mp z.1 _ hs
          rw [isK_n (by omega)] at this
          exact ⟨k, hk, rfl, (of_decide_eq_true this : 100 ≤ k ∧ k < 106)⟩⟩
        refine ⟨⟨fun s hs => (by cases hs), by show 0 ≤ 24; omega⟩, h2, h3, h4, fun w hw => ?_, h6⟩
        show (upN X.2.2.1 (nI g).toNatClampNeg (kT X) w).length ≤ 24 ∧ (upN X.2.2.1 (nI g).toNatClampNeg (kT X) w ≠ [] → tmq _ _ (upN X.2.2.1 (nI g).toNatClampNeg (kT X) w))
        by_cases e : w = (nI g).toNatClampNeg
        · have ue : upN X.2.2.1 (nI g).toNatClampNeg (kT X) w = kT X := by unfold upN; rw [if_pos e]
          rw [ue]
          exact ⟨h1.2, fun _ => hk⟩
        · have ue : upN X.2.2.1 (nI g).toNatClampNeg (kT X) w = kI X w := by unfold upN; rw [if_neg e]; rfl
          rw [ue]
          exact h5 w hw
  · exact h
theorem csW.fg {X : CS} (hS : SW (kP X) (kC X)) : csW (csFg X) := by
  have u : ∀ i, ¬ (200 ≤ i ∧ i < 208) → clrN (kP X) 8 0 i = kP X i ∧ clrN (kC X) 8 false i = kC X i := fun i hi => by
    unfold clrN; rw [if_neg hi, if_neg hi]; exact ⟨rfl, rfl⟩
  have us : ∀ i, (200 ≤ i ∧ i < 208) → clrN (kP X) 8 0 i = 0 ∧ clrN (kC X) 8 false i = false := fun i hi => by
    unfold clrN; rw [if_pos hi, if_pos hi]; exact ⟨rfl, rfl⟩
  obtain ⟨s1, s2, s3, s4, s5, s6⟩ := hS
  have hS' : SW (clrN (kP X) 8 0) (clrN (kC X) 8 false) := by
    refine ⟨fun i hi => ?_, fun i hi => ?_, fun c hc => ?_, fun f hf => ?_, ?_, fun i hi hc => ?_⟩
    · by_cases e : 200 ≤ i ∧ i < 208
      · rw [(us i e).1]; exact ⟨0, by omega, nI_0.symm⟩
      · rw [(u i e).1]; exact s1 i hi
    · rw [(u i (by omega)).1]; exact s2 i hi
    · rw [(u _ (by omega)).1]; exact s3 c hc
    · rw [(us _ (by omega)).1]; exact ⟨0, by omega, nI_0.symm⟩
    · rw [(u _ (by omega)).1]; exact s5
    · by_cases e : 200 ≤ i ∧ i < 208
      · rw [(us i e).2] at hc; cases hc
      · rw [(u i e).2] at hc; rw [(u i e).1]; exact s6 i hi hc
  refine ⟨⟨fun s hs => (by cases hs), by show 0 ≤ 24; omega⟩, hS', fun f c hf hc hne => absurd ?_ hne, ⟨by show 0 ≤ 24; omega, fun z => absurd rfl z⟩, fun v hv => ?_, fun z => ?_⟩
  · show clrB X.2.2.2.2.2.1 48 (6 * f + c) = []
    unfold clrB
    rw [if_pos (by omega)]
  · show (clrB X.2.2.1 8 v).length ≤ 24 ∧ (clrB X.2.2.1 8 v ≠ [] → _)
    have : clrB X.2.2.1 8 v = [] := by unfold clrB; rw [if_pos hv]
    rw [this]
    exact ⟨by decide, fun z => absurd rfl z⟩
  · exact absurd (show (-1 : Int32) = 0 from z) (by decide)
theorem csW.sg {X : CS} {S : GS} {T : TS} (h : csW X) (hW : WF (kP X) (dT X S) none) : csW (kSg X (dW X S).2.1 (dW X S).2.2 T) := by
  have e1 : (dW X S).2 = (oT (dT X S) (kP X) (kC X)).2 := rfl
  refine h.tab (pt := (dW X S).2.1) (cs := (dW X S).2.2) ?_ (fun k hk => ?_) (fun f hf _ => ?_)
  · rw [e1]; exact SW_oT h.2.1 hW
  · rw [e1, (oT_sg hW k).1, if_neg (by omega)]
  · rw [e1, (oT_sg hW (200 + f)).1, (oT_sg hW (200 + f)).2, if_neg (by omega), if_neg (by omega)]
    exact ⟨rfl, rfl⟩
theorem csW.rn {X : CS} {R : Int32 × Nat × List Int32} (h : csW X) (h0 : R.1 = 0 → al kA R.2.2 ∧ R.2.2.length ≤ 200) : csW (csRn X R) := ⟨h.1, h.2.1, h.2.2.1, h.2.2.2.1, h.2.2.2.2.1, h0⟩
