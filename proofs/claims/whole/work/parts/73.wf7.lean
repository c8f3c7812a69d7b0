/-! pure: generalising -/
theorem gN1_spec {S : GS} {v : Int32} {u l : Nat} (h : gC S < 40) : gL (gN1 S v u l) = gL S ∧ gC (gN1 S v u l) = gC S + 1 ∧ gF (gN1 S v u l) = (if gC S = 0 then v else gF S) ∧ (∀ k, gU (gN1 S v u l) k = if k = gC S then u else gU S k) ∧ ∀ k, gD (gN1 S v u l) k = if k = gC S then l else gD S k := by
  unfold gN1
  by_cases z : gC S = 0
  · rw [if_pos z, if_pos z]
    unfold gPush
    have : gC (gFv S v) = gC S := rfl
    rw [this, if_pos h]
    exact ⟨rfl, rfl, rfl, fun _ => rfl, fun _ => rfl⟩
  · rw [if_neg z, if_neg z]
    unfold gPush
    rw [if_pos h]
    exact ⟨rfl, rfl, rfl, fun _ => rfl, fun _ => rfl⟩
/-- what is common so far -/
def CI (p : Int32 → Nat) (V0 : Nat) (zu zl : List Int32) (m : Nat) (S : GS) (T : TS) : Prop :=
  (∀ r, full p m r = true → full p 1 (gL S ++ r) = true) ∧ tV T = V0 + gC S ∧ (0 < gC S → gF S = nI V0) ∧ (∀ s ∈ gL S, (s ∈ zu ∧ s ∈ zl) ∨ ∃ k, k < gC S ∧ s = nI (V0 + k)) ∧ SB S zu zl
theorem full_step {p : Int32 → Nat} {l : List Int32} {m i : Nat} (h : full p m (l.drop i) = true) (hi : i < l.length) : ∃ m', m = m' + 1 ∧ full p (m' + p (l.getD i (-1))) (l.drop (i + 1)) = true ∧ full p m' (l.drop (i + tk p 1 (l.drop i))) = true := by
  have hc := drop_cons hi
  cases m with
  | zero => rw [hc] at h; cases h
  | succ m =>
    refine ⟨m, rfl, by rw [hc] at h; exact h, ?_⟩
    have := (full_tk (l.drop i) 1 m (by rw [Nat.add_comm 1 m]; exact h)).2
    rw [List.drop_drop] at this
    exact this
theorem getD_mem {l : List Int32} {i : Nat} (h : i < l.length) : l.getD i (-1) ∈ l := by
  rw [List.getD_eq_getElem?_getD, List.getElem?_eq_getElem h]
  exact List.getElem_mem h
theorem tCom_spec {pt : Nat → Int32} {cs : Nat → Bool} {h : Option Nat} {V0 : Nat} {zu zl : List Int32} (hS : SW pt cs) (hu : zu.length ≤ 40) (hl : zl.length ≤ 40) : ∀ {f i j m : Nat} {S : GS} {T : TS}, zu.length ≤ i + f → i ≤ zu.length → full (nP (sgP pt)) m (zu.drop i) = true → full (nP (sgP pt)) m (zl.drop j) = true → gC S ≤ i → (gL S).length ≤ i → CI (nP (sgP pt)) V0 zu zl m S T → WF pt T h → tG (tCom (sgP pt) zu zl f i j S T).2 = false →
    WF pt (tCom (sgP pt) zu zl f i j S T).2 h ∧ CI (nP (sgP pt)) V0 zu zl 0 (tCom (sgP pt) zu zl f i j S T).1 (tCom (sgP pt) zu zl f i j S T).2 ∧ gC (tCom (sgP pt) zu zl f i j S T).1 ≤ 40 ∧ (gL (tCom (sgP pt) zu zl f i j S T).1).length ≤ 40
  | 0, i, j, m, S, T, hf, hi, h1, h2, hc, hgl, hCI, hW, hg => by
    have e : i = zu.length := by omega
    rw [e, List.drop_length] at h1
    rw [full_nil h1] at hCI
    exact ⟨hW, hCI, by show gC S ≤ 40; omega, by show (gL S).length ≤ 40; omega⟩
  | f + 1, i, j, m, S, T, hf, hi, h1, h2, hc, hgl, hCI, hW, hg => by
    have hP := hS.ok.1
    by_cases hlt : i < zu.length
    · obtain ⟨m', rfl, a1, a2⟩ := full_step h1 hlt
      have hjl : j < zl.length := by have := full_ne h2; rw [List.length_drop] at this; omega
      obtain ⟨m'', em, b1, b2⟩ := full_step h2 hjl
      obtain rfl : m' = m'' := by omega
      unfold tCom at hg ⊢
      rw [if_pos hlt] at hg ⊢
      obtain ⟨c1, c2, c3, c4, c5⟩ := hCI
      by_cases he : zu.getD i (-1) = zl.getD j (-1)
      · rw [if_pos he] at hg ⊢
        refine tCom_spec hS hu hl (f := f) (m := m' + nP (sgP pt) (zu.getD i (-1))) (by omega) (by omega) a1 (by rw [he]; exact b1) (by show gC S ≤ _; omega) (by show (gL S ++ [_]).length ≤ _; rw [List.length_append]; simp; omega) ⟨fun r hr => ?_, c2, c3, fun s hs => ?_, c5⟩ hW hg
        · show full _ 1 (gL S ++ [zu.getD i (-1)] ++ r) = true
          rw [List.append_assoc]
          exact c1 _ hr
        · rcases List.mem_append.mp (show s ∈ gL S ++ [zu.getD i (-1)] from hs) with z | z
          · exact c4 s z
          · rw [List.mem_singleton.mp z]
            exact Or.inl ⟨getD_mem hlt, by rw [he]; exact getD_mem hjl⟩
      · rw [if_neg he] at hg ⊢
        have hbu : behind (sgP pt) zu i = i + tk (nP (sgP pt)) 1 (zu.drop i) := behind_tk hP (by omega) i
        have hbl : behind (sgP pt) zl j = j + tk (nP (sgP pt)) 1 (zl.drop j) := behind_tk hP (by omega) j
        have hgt : i < behind (sgP pt) zu i := behind_gt hP (by omega) hlt
        have hle : behind (sgP pt) zu i ≤ zu.length := behind_le (by omega)
        rw [← hbu] at a2
        rw [← hbl] at b2
        have hv0 : ∀ k, V0 + k < 100 → ∀ r, full (nP (sgP pt)) m' r = true → full (nP (sgP pt)) 1 (gL S ++ [nI (V0 + k)] ++ r) = true := fun k hk r hr => by
          rw [List.append_assoc]
          refine c1 _ ?_
          show full _ (m' + nP (sgP pt) (nI (V0 + k))) r = true
          rw [hS.v hk, Nat.add_zero]
          exact hr
        rcases hm : met S zu zl i (behind (sgP pt) zu i) j (behind (sgP pt) zl j) (gC S) 0 with _ | k
        · rw [hm] at hg
          simp only at hg ⊢
          obtain ⟨n1, n2, n3, n4⟩ := hW.new (nG (fun z => tCom_G z) hg)
          obtain ⟨g1, g2, g3, g4, g5⟩ := gN1_spec (S := S) (v := (tNew T).2) (u := i) (l := j) (by omega)
          refine tCom_spec hS hu hl (f := f) (m := m') (by omega) hle a2 b2 (by show gC (gN1 S _ i j) ≤ _; rw [g2]; omega) (by show (gL (gN1 S _ i j) ++ [_]).length ≤ _; rw [g1, List.length_append]; simp; omega) ⟨fun r hr => ?_, ?_, fun _ => ?_, fun s hs => ?_, ?_⟩ n1 hg
          · show full _ 1 (gL (gN1 S _ i j) ++ [(tNew T).2] ++ r) = true
            rw [g1, n4, c2]
            exact hv0 _ (by omega) r hr
          · show _ = V0 + gC (gN1 S _ i j)
            rw [g2, n2, c2]; omega
          · show gF (gN1 S _ i j) = _
            rw [g3, n4, c2]
            by_cases z : gC S = 0
            · rw [if_pos z, z]; rfl
            · rw [if_neg z]; exact c3 (by omega)
          · have hs' : s ∈ gL (gN1 S (tNew T).2 i j) ++ [(tNew T).2] := hs
            show _ ∨ ∃ k, k < gC (gN1 S (tNew T).2 i j) ∧ _
            rw [g1] at hs'
            rw [g2]
            rcases List.mem_append.mp hs' with z | z
            · rcases c4 s z with y | ⟨k, hk, e⟩
              · exact Or.inl y
              · exact Or.inr ⟨k, by omega, e⟩
            · rw [List.mem_singleton.mp z, n4, c2]
              exact Or.inr ⟨gC S, by omega, rfl⟩
          · exact (c5.n1 hlt hjl).add
        · rw [hm] at hg
          simp only at hg ⊢
          have hk := met_lt hm
          refine tCom_spec hS hu hl (f := f) (m := m') (by omega) hle a2 b2 (by show gC S ≤ _; omega) (by show (gL S ++ [_]).length ≤ _; rw [List.length_append]; simp; omega) ⟨fun r hr => ?_, c2, c3, fun s hs => ?_, c5⟩ hW hg
          · show full _ 1 (gL S ++ [gF S + nI k] ++ r) = true
            rw [c3 (by omega), nI_add]
            have := hW.1.2.1
            exact hv0 _ (by omega) r hr
          · rcases List.mem_append.mp (show s ∈ gL S ++ [gF S + nI k] from hs) with z | z
            · exact c4 s z
            · rw [List.mem_singleton.mp z, c3 (by omega), nI_add]
              exact Or.inr ⟨k, by show k < gC S; omega, rfl⟩
    · have e : i = zu.length := by omega
      rw [e, List.drop_length] at h1
      rw [full_nil h1] at hCI
      unfold tCom
      rw [if_neg hlt]
      exact ⟨hW, hCI, by show gC S ≤ 40; omega, by show (gL S).length ≤ 40; omega⟩
theorem tApart_spec {pt : Nat → Int32} {cs : Nat → Bool} {h : Option Nat} {V0 : Nat} {zs : List Int32} (hS : SW pt cs) (hz : zs.length ≤ 40) : ∀ {k pl : Nat} {S : GS} {T : TS}, full (nP (sgP pt)) k (zs.drop pl) = true → gC S + k ≤ 40 → gC S + 1 ≤ pl → (gL S).length ≤ pl → pl ≤ zs.length → CI (nP (sgP pt)) V0 zs zs k S T → WF pt T h → tG (tApart (sgP pt) zs k pl S T).2 = false →
    WF pt (tApart (sgP pt) zs k pl S T).2 h ∧ CI (nP (sgP pt)) V0 zs zs 0 (tApart (sgP pt) zs k pl S T).1 (tApart (sgP pt) zs k pl S T).2 ∧ gC (tApart (sgP pt) zs k pl S T).1 ≤ 40 ∧ (gL (tApart (sgP pt) zs k pl S T).1).length ≤ 40
  | 0, pl, S, T, hf, hc, hp, hgl, hpl, hCI, hW, hg => ⟨hW, hCI, by show gC S ≤ 40; omega, by show (gL S).length ≤ 40; omega⟩
  | k + 1, pl, S, T, hf, hc, hp, hgl, hpl, hCI, hW, hg => by
    have hP := hS.ok.1
    have hlt : pl < zs.length := by have := full_ne hf; rw [List.length_drop] at this; omega
    obtain ⟨m', em, _, a2⟩ := full_step hf hlt
    obtain rfl : k = m' := by omega
    have hbu : behind (sgP pt) zs pl = pl + tk (nP (sgP pt)) 1 (zs.drop pl) := behind_tk hP (by omega) pl
    have hgt : pl < behind (sgP pt) zs pl := behind_gt hP (by omega) hlt
    have hle : behind (sgP pt) zs pl ≤ zs.length := behind_le (by omega)
    rw [← hbu] at a2
    obtain ⟨c1, c2, c3, c4, c5⟩ := hCI
    unfold tApart at hg ⊢
    obtain ⟨n1, n2, n3, n4⟩ := hW.new (nG (fun z => tApart_G z) hg)
    obtain ⟨g1, g2, g3, g4, g5⟩ := gN1_spec (S := S) (v := (tNew T).2) (u := pl) (l := pl) (by omega)
    refine tApart_spec hS hz (k := k) a2 (by show gC (gN1 S _ pl pl) + k ≤ 40; rw [g2]; omega) (by show gC (gN1 S _ pl pl) + 1 ≤ _; rw [g2]; omega) (by show (gL (gN1 S _ pl pl) ++ [_]).length ≤ _; rw [g1, List.length_append]; simp; omega) hle ⟨fun r hr => ?_, ?_, fun _ => ?_, fun s hs => ?_, ?_⟩ n1 hg
    · show full _ 1 (gL (gN1 S _ pl pl) ++ [(tNew T).2] ++ r) = true
      rw [g1, n4, List.append_assoc]
      refine c1 _ ?_
      show full _ (k + nP (sgP pt) (nI (tV T))) r = true
      rw [hS.v n3, Nat.add_zero]
      exact hr
    · show _ = V0 + gC (gN1 S _ pl pl)
      rw [g2, n2, c2]; omega
    · show gF (gN1 S _ pl pl) = _
      rw [g3, n4, c2]
      by_cases z : gC S = 0
      · rw [if_pos z, z]; rfl
      · rw [if_neg z]; exact c3 (by omega)
    · have hs' : s ∈ gL (gN1 S (tNew T).2 pl pl) ++ [(tNew T).2] := hs
      show _ ∨ ∃ k, k < gC (gN1 S (tNew T).2 pl pl) ∧ _
      rw [g1] at hs'
      rw [g2]
      rcases List.mem_append.mp hs' with z | z
      · rcases c4 s z with y | ⟨k, hk, e⟩
        · exact Or.inl y
        · exact Or.inr ⟨k, by omega, e⟩
      · rw [List.mem_singleton.mp z, n4, c2]
        exact Or.inr ⟨gC S, by omega, rfl⟩
    · exact (c5.n1 hlt hlt).add
