/-! ResidualProgram: writeInline, write -/
theorem tsw7 (x : Int32) : (x.toInt < 1 ∨ 7 < x.toInt) ∨ x = 1 ∨ x = 2 ∨ x = 3 ∨ x = 4 ∨ x = 5 ∨ x = 6 ∨ x = 7 := by
  by_cases h : x.toInt < 1 ∨ 7 < x.toInt
  · exact Or.inl h
  · right
    have h1 : x.toInt = 1 ∨ x.toInt = 2 ∨ x.toInt = 3 ∨ x.toInt = 4 ∨ x.toInt = 5 ∨ x.toInt = 6 ∨ x.toInt = 7 := by omega
    rcases h1 with h | h | h | h | h | h | h
    · exact Or.inl (Int32.toInt_inj.mp (h.trans (by decide)))
    · exact Or.inr (Or.inl (Int32.toInt_inj.mp (h.trans (by decide))))
    · exact Or.inr (Or.inr (Or.inl (Int32.toInt_inj.mp (h.trans (by decide)))))
    · exact Or.inr (Or.inr (Or.inr (Or.inl (Int32.toInt_inj.mp (h.trans (by decide))))))
    · exact Or.inr (Or.inr (Or.inr (Or.inr (Or.inl (Int32.toInt_inj.mp (h.trans (by decide)))))))
    · exact Or.inr (Or.inr (Or.inr (Or.inr (Or.inr (Or.inl (Int32.toInt_inj.mp (h.trans (by decide))))))))
    · exact Or.inr (Or.inr (Or.inr (Or.inr (Or.inr (Or.inr (Int32.toInt_inj.mp (h.trans (by decide))))))))
def wInl (T : TS) (n : Nat) : List Int32 :=
  if (tD T n).1 7 = 1 then t40 T n
  else if (tD T n).1 7 = 2 then aabL T 48 ((tD T n).2.1 4) (nrs (tD T n) ++ [(t40 T n).getD 0 (-1)])
  else if (tD T n).1 7 = 3 then aabL T 48 ((tD T n).2.1 4) (nrs (tD T n))
  else if (tD T n).1 7 = 5 then nrs (tD T n) ++ [400]
  else if (tD T n).1 7 = 6 then wfL T n
  else if (tD T n).1 7 = 7 then wlL T n
  else nrs (tD T n)
set_option maxRecDepth 10000 in
set_option maxHeartbeats 1000000 in
theorem c_ResidualProgram_writeInline {G : Ctx} {d : Nat} {Γ : List Sh} {σ : Mem} {Q : Option Value → List Sh → Mem → Prop} {T : TS} {n K : Nat}  (hRs : isRes Γ σ) (hT : isTree Γ σ T) (hS : isSb Γ σ K) (hK : K < 1000000000) (hB : BW T) (hW : GW T) (hn2 : n < tN T) (hQ : ∀ σ', isTree Γ σ' (tRs T n (wInl T n)) → isSb Γ σ' (K + 1) → FrP (fun a => (22 ≤ a ∧ a ≤ 26) ∨ inN n a) σ σ' → Q none Γ σ') : Ct G M_ResidualProgram_writeInline (d + 4) 0 0 [rf G 385, rf G (133 + 5 * n)] Γ σ Q := by
  obtain ⟨p0, p1, p2, p3⟩ := id hRs
  obtain ⟨-, -, -, ⟨-, t4b⟩, -⟩ := id hT
  have hn : n < 48 := by omega
  have hN := hT.nd hn
  obtain ⟨m0, ⟨i0, ii⟩, ⟨q1, q2, qq⟩, nt, nr⟩ := id hN
  refine Ct.of (lv := [some (rf G 385), some (rf G (133 + 5 * n))]) (ll := []) rfl rfl (EN.cat (n := 0) ⟨rfl, rfl, trivial⟩ (Nat.le_of_ble_eq_true rfl)) ?_
  first | refine x_aload_n d_ResidualProgram_writeInline_0 rfl rfl ?_ | refine x_aloadN_n d_ResidualProgram_writeInline_0 rfl rfl ?_ | refine x_aloadE_n d_ResidualProgram_writeInline_0 rfl rfl ?_ | refine x_aloadO_n d_ResidualProgram_writeInline_0 rfl rfl ?_
  refine x_getI d_ResidualProgram_writeInline_1 f_ResidualProgram_77 rfl (by exact m0) ?_
  rw [ii 7 rfl]
  rcases tsw7 ((tD T n).1 7) with h | hk | hk | hk | hk | hk | hk | hk
  · refine x_tblOut (tgt := 119) d_ResidualProgram_writeInline_4 h (by decide) ?_
    have hne : ∀ z : Int32, (1 ≤ z.toInt ∧ z.toInt ≤ 7) → ¬ (tD T n).1 7 = z := fun z hz e => by rw [e] at h; omega
    exact x_return d_ResidualProgram_writeInline_119 rfl (by rw [wInl, if_neg (hne 1 (by decide)), if_neg (hne 2 (by decide)), if_neg (hne 3 (by decide)), if_neg (hne 5 (by decide)), if_neg (hne 6 (by decide)), if_neg (hne 7 (by decide))] at hQ; exact hQ σ hT.rs0 (hS.mono (by omega)) FrP.rf)
  · rw [hk]
    refine x_tblIn (tgt := 48) d_ResidualProgram_writeInline_4 (by decide) (by decide) rfl (by decide) ?_
    first | refine x_aload_n d_ResidualProgram_writeInline_48 rfl rfl ?_ | refine x_aloadN_n d_ResidualProgram_writeInline_48 rfl rfl ?_ | refine x_aloadE_n d_ResidualProgram_writeInline_48 rfl rfl ?_ | refine x_aloadO_n d_ResidualProgram_writeInline_48 rfl rfl ?_
    refine x_getR d_ResidualProgram_writeInline_49 f_ResidualProgram_21 rfl (by exact m0) (q2) ?_
    first | refine x_aload_n d_ResidualProgram_writeInline_52 rfl rfl ?_ | refine x_aloadN_n d_ResidualProgram_writeInline_52 rfl rfl ?_ | refine x_aloadE_n d_ResidualProgram_writeInline_52 rfl rfl ?_ | refine x_aloadO_n d_ResidualProgram_writeInline_52 rfl rfl ?_
    refine x_getR d_ResidualProgram_writeInline_53 f_ResidualProgram_93 rfl (by exact m0) (q1) ?_
    refine x_callV1 d_ResidualProgram_writeInline_56 k_Row_copy l_ResidualProgram_116 v_Row_copy rfl s_Row_copy (by exact nr.1) RoomE.m (Nat.le_of_ble_eq_true rfl) (c_Row_copy nr nt (by omega) (fun τ1 r1 f1 => ?_))
    refine x_goto (tgt := 119) d_ResidualProgram_writeInline_59 (by decide) ?_
    exact x_return d_ResidualProgram_writeInline_119 rfl (by rw [wInl, if_pos hk] at hQ; exact hQ _ (hT.rs0.rs hn r1 f1) ((hS.P (f1.P (T := inN n) (by simp [inN] <;> omega)) (fun a h1 h2 h3 => by unfold inN at h3; omega)).mono (by omega)) (FrP.mono (f1.P (T := inN n) (by simp [inN] <;> omega)) (fun a z => Or.inr z)))
  · rw [hk]
    refine x_tblIn (tgt := 75) d_ResidualProgram_writeInline_4 (by decide) (by decide) rfl (by decide) ?_
    first | refine x_aload_n d_ResidualProgram_writeInline_75 rfl rfl ?_ | refine x_aloadN_n d_ResidualProgram_writeInline_75 rfl rfl ?_ | refine x_aloadE_n d_ResidualProgram_writeInline_75 rfl rfl ?_ | refine x_aloadO_n d_ResidualProgram_writeInline_75 rfl rfl ?_
    refine x_getR d_ResidualProgram_writeInline_76 f_ResidualProgram_21 rfl (by exact m0) (q2) ?_
    first | refine x_aload_n d_ResidualProgram_writeInline_79 rfl rfl ?_ | refine x_aloadN_n d_ResidualProgram_writeInline_79 rfl rfl ?_ | refine x_aloadE_n d_ResidualProgram_writeInline_79 rfl rfl ?_ | refine x_aloadO_n d_ResidualProgram_writeInline_79 rfl rfl ?_
    refine x_getR d_ResidualProgram_writeInline_80 f_ResidualProgram_93 rfl (by exact m0) (q1) ?_
    refine x_iconst (v := 0) d_ResidualProgram_writeInline_83 (by decide) ?_
    refine x_callV1 d_ResidualProgram_writeInline_84 k_Row_at l_ResidualProgram_60 v_Row_at rfl s_Row_at (by exact nt.1) RoomE.m (Nat.le_of_ble_eq_true rfl) (c_Row_at (i := nI 0) nt ?_)
    rw [atI_nI (by omega)]
    refine x_callV1 d_ResidualProgram_writeInline_87 k_Row_add l_ResidualProgram_86 v_Row_add rfl s_Row_add (by exact nr.1) RoomE.m (Nat.le_of_ble_eq_true rfl) (c_Row_add nr (fun τ1 r1 f1 => ?_))
    have T1 := hT.rs0.rs hn r1 f1
    first | refine x_aload_n d_ResidualProgram_writeInline_90 rfl rfl ?_ | refine x_aloadN_n d_ResidualProgram_writeInline_90 rfl rfl ?_ | refine x_aloadE_n d_ResidualProgram_writeInline_90 rfl rfl ?_ | refine x_aloadO_n d_ResidualProgram_writeInline_90 rfl rfl ?_
    refine x_callS1 d_ResidualProgram_writeInline_91 k_ResidualProgram_addAllBelow l_ResidualProgram_120 z_ResidualProgram_addAllBelow RoomE.m (Nat.le_of_ble_eq_true rfl) (c_ResidualProgram_addAllBelow T1 hB.rs hn2 (fun τ2 T2 f2 => ?_))
    refine x_goto (tgt := 119) d_ResidualProgram_writeInline_94 (by decide) ?_
    exact x_return d_ResidualProgram_writeInline_119 rfl (by
      have e1 : tRs (tRs T n (nrs (tD T n) ++ [(t40 T n).getD 0 (-1)])) n (aabL (tRs T n (nrs (tD T n) ++ [(t40 T n).getD 0 (-1)])) 48 ((tD (tRs T n (nrs (tD T n) ++ [(t40 T n).getD 0 (-1)])) n).2.1 4) (nrs (tD (tRs T n (nrs (tD T n) ++ [(t40 T n).getD 0 (-1)])) n))) = tRs T n (wInl T n) := by
        rw [tRs_at, aabL_rs hB (fun u hu => by have := hB n hn2 u (Or.inl hu); omega), wInl, if_neg (by rw [hk]; decide), if_pos hk]
        show tUp (tUp T n _) n (xs (tD (tRs T n _) n) _) = _
        rw [tUp_tUp, tRs_at]
        rfl
      have T2' : isTree Γ τ2 (tRs (tRs T n (nrs (tD T n) ++ [(t40 T n).getD 0 (-1)])) n (aabL (tRs T n (nrs (tD T n) ++ [(t40 T n).getD 0 (-1)])) 48 ((tD (tRs T n (nrs (tD T n) ++ [(t40 T n).getD 0 (-1)])) n).2.1 4) (nrs (tD (tRs T n (nrs (tD T n) ++ [(t40 T n).getD 0 (-1)])) n)))) := T2
      rw [e1] at T2'
      have g2 := (f1.P (T := inN n) (by simp [inN] <;> omega)).tr f2
      exact hQ _ T2' ((hS.P g2 (fun a h1 h2 h3 => by unfold inN at h3; omega)).mono (by omega)) (g2.mono (fun a z => Or.inr z)))
  · rw [hk]
    refine x_tblIn (tgt := 97) d_ResidualProgram_writeInline_4 (by decide) (by decide) rfl (by decide) ?_
    first | refine x_aload_n d_ResidualProgram_writeInline_97 rfl rfl ?_ | refine x_aloadN_n d_ResidualProgram_writeInline_97 rfl rfl ?_ | refine x_aloadE_n d_ResidualProgram_writeInline_97 rfl rfl ?_ | refine x_aloadO_n d_ResidualProgram_writeInline_97 rfl rfl ?_
    refine x_callS1 d_ResidualProgram_writeInline_98 k_ResidualProgram_addAllBelow l_ResidualProgram_120 z_ResidualProgram_addAllBelow RoomE.m (Nat.le_of_ble_eq_true rfl) (c_ResidualProgram_addAllBelow hT hB hn2 (fun τ2 T2 f2 => ?_))
    refine x_goto (tgt := 119) d_ResidualProgram_writeInline_101 (by decide) ?_
    exact x_return d_ResidualProgram_writeInline_119 rfl (by rw [wInl, if_neg (by rw [hk]; decide), if_neg (by rw [hk]; decide), if_pos hk] at hQ; exact hQ _ T2 ((hS.P f2 (fun a h1 h2 h3 => by unfold inN at h3; omega)).mono (by omega)) (f2.mono (fun a z => Or.inr z)))
  · rw [hk]
    refine x_tblIn (tgt := 119) d_ResidualProgram_writeInline_4 (by decide) (by decide) rfl (by decide) ?_
    have hne : ∀ z : Int32, (1 ≤ z.toInt ∧ z.toInt ≤ 7 ∧ z ≠ 4) → ¬ (tD T n).1 7 = z := fun z hz e => hz.2.2 (by rw [← e, hk])
    exact x_return d_ResidualProgram_writeInline_119 rfl (by rw [wInl, if_neg (hne 1 (by decide)), if_neg (hne 2 (by decide)), if_neg (hne 3 (by decide)), if_neg (hne 5 (by decide)), if_neg (hne 6 (by decide)), if_neg (hne 7 (by decide))] at hQ; exact hQ σ hT.rs0 (hS.mono (by omega)) FrP.rf)
  · rw [hk]
    refine x_tblIn (tgt := 62) d_ResidualProgram_writeInline_4 (by decide) (by decide) rfl (by decide) ?_
    first | refine x_aload_n d_ResidualProgram_writeInline_62 rfl rfl ?_ | refine x_aloadN_n d_ResidualProgram_writeInline_62 rfl rfl ?_ | refine x_aloadE_n d_ResidualProgram_writeInline_62 rfl rfl ?_ | refine x_aloadO_n d_ResidualProgram_writeInline_62 rfl rfl ?_
    refine x_getR d_ResidualProgram_writeInline_63 f_ResidualProgram_21 rfl (by exact m0) (q2) ?_
    refine x_sipush (v := 400) d_ResidualProgram_writeInline_66 (by decide) ?_
    refine x_callV1 d_ResidualProgram_writeInline_69 k_Row_add l_ResidualProgram_86 v_Row_add rfl s_Row_add (by exact nr.1) RoomE.m (Nat.le_of_ble_eq_true rfl) (c_Row_add nr (fun τ1 r1 f1 => ?_))
    refine x_goto (tgt := 119) d_ResidualProgram_writeInline_72 (by decide) ?_
    exact x_return d_ResidualProgram_writeInline_119 rfl (by rw [wInl, if_neg (by rw [hk]; decide), if_neg (by rw [hk]; decide), if_neg (by rw [hk]; decide), if_pos hk] at hQ; exact hQ _ (hT.rs0.rs hn r1 f1) ((hS.P (f1.P (T := inN n) (by simp [inN] <;> omega)) (fun a h1 h2 h3 => by unfold inN at h3; omega)).mono (by omega)) (FrP.mono (f1.P (T := inN n) (by simp [inN] <;> omega)) (fun a z => Or.inr z)))
  · rw [hk]
    refine x_tblIn (tgt := 104) d_ResidualProgram_writeInline_4 (by decide) (by decide) rfl (by decide) ?_
    first | refine x_aload_n d_ResidualProgram_writeInline_104 rfl rfl ?_ | refine x_aloadN_n d_ResidualProgram_writeInline_104 rfl rfl ?_ | refine x_aloadE_n d_ResidualProgram_writeInline_104 rfl rfl ?_ | refine x_aloadO_n d_ResidualProgram_writeInline_104 rfl rfl ?_
    refine x_callS1 d_ResidualProgram_writeInline_105 k_ResidualProgram_writeFold l_ResidualProgram_123 z_ResidualProgram_writeFold RoomE.m (Nat.le_of_ble_eq_true rfl) (c_ResidualProgram_writeFold hT hW hn2 (fun τ2 T2 f2 => ?_))
    refine x_goto (tgt := 119) d_ResidualProgram_writeInline_108 (by decide) ?_
    exact x_return d_ResidualProgram_writeInline_119 rfl (by rw [wInl, if_neg (by rw [hk]; decide), if_neg (by rw [hk]; decide), if_neg (by rw [hk]; decide), if_neg (by rw [hk]; decide), if_pos hk] at hQ; exact hQ _ T2 ((hS.P f2 (fun a h1 h2 h3 => by unfold inN at h3; omega)).mono (by omega)) (f2.mono (fun a z => Or.inr z)))
  · rw [hk]
    refine x_tblIn (tgt := 111) d_ResidualProgram_writeInline_4 (by decide) (by decide) rfl (by decide) ?_
    first | refine x_aload_n d_ResidualProgram_writeInline_111 rfl rfl ?_ | refine x_aloadN_n d_ResidualProgram_writeInline_111 rfl rfl ?_ | refine x_aloadE_n d_ResidualProgram_writeInline_111 rfl rfl ?_ | refine x_aloadO_n d_ResidualProgram_writeInline_111 rfl rfl ?_
    first | refine x_aload_n d_ResidualProgram_writeInline_112 rfl rfl ?_ | refine x_aloadN_n d_ResidualProgram_writeInline_112 rfl rfl ?_ | refine x_aloadE_n d_ResidualProgram_writeInline_112 rfl rfl ?_ | refine x_aloadO_n d_ResidualProgram_writeInline_112 rfl rfl ?_
    refine x_callV1 d_ResidualProgram_writeInline_113 k_ResidualProgram_writeLet l_ResidualProgram_126 v_ResidualProgram_writeLet rfl s_ResidualProgram_writeLet (by exact p0) RoomE.m (Nat.le_of_ble_eq_true rfl) (c_ResidualProgram_writeLet hRs hT hS hK hB hn2 (fun τ2 T2 S2 f2 => ?_))
    refine x_goto (tgt := 119) d_ResidualProgram_writeInline_116 (by decide) ?_
    exact x_return d_ResidualProgram_writeInline_119 rfl (by rw [wInl, if_neg (by rw [hk]; decide), if_neg (by rw [hk]; decide), if_neg (by rw [hk]; decide), if_neg (by rw [hk]; decide), if_neg (by rw [hk]; decide), if_pos hk] at hQ; exact hQ _ T2 S2 f2)
abbrev WS : Type := TS × (Nat → Int32) × (Nat → Bool)
def own1 (X : WS) (n : Nat) : WS := if (tD X.1 n).1 10 = 0 then X else (ocT X.1 n, upN X.2.1 (300 + n) (ocP X.1 n), upN X.2.2 (300 + n) (ocC X.1 n))
def ownL : Nat → Nat → WS → WS
  | 0, _, X => X
  | k + 1, n, X => ownL k (n + 1) (own1 X n)
def inl1 (T : TS) (n : Nat) : TS := if (tD T n).1 10 = 0 then tRs T n (wInl T n) else T
def inlL : Nat → TS → TS × Bool
  | 0, T => (T, true)
  | m + 1, T => if 100 < (nrs (tD (inl1 T m) m)).length then (inl1 T m, false) else inlL m (inl1 T m)
def wrt (T : TS) (pt : Nat → Int32) (cs : Nat → Bool) : (TS × Bool) × (Nat → Int32) × (Nat → Bool) := (inlL (tN T) (ownL (tN T) 0 (tMk (tN T) 0 T, pt, cs)).1, (ownL (tN T) 0 (tMk (tN T) 0 T, pt, cs)).2)
theorem own1_o {X : WS} {n : Nat} : tN (own1 X n).1 = tN X.1 ∧ ∀ k, (tD (own1 X n).1 k).2.1 = (tD X.1 k).2.1 := by
  unfold own1
  split
  · exact ⟨rfl, fun _ => rfl⟩
  · exact ⟨rfl, fun k => tRs_lk.1⟩
theorem inl1_o {T : TS} {n : Nat} : tN (inl1 T n) = tN T ∧ ∀ k, (tD (inl1 T n) k).2.1 = (tD T k).2.1 := by
  unfold inl1
  split
  · exact ⟨rfl, fun k => tRs_lk.1⟩
  · exact ⟨rfl, fun _ => rfl⟩
theorem tMk1_o {T : TS} {n k : Nat} : (tD (tMk1 T n) k).2.1 = (tD T k).2.1 := by
  have hu : ∀ (q : Nat) (x : ND), x.2.1 = (tD T q).2.1 → (tD (tUp T q x) k).2.1 = (tD T k).2.1 := by
    intro q x h
    by_cases z : k = q
    · subst z; rw [tD_up]; exact h
    · rw [tD_ne z]
  unfold tMk1
  split
  · exact hu _ _ rfl
  · split
    · rfl
    · exact hu _ _ rfl
theorem tMk_o : ∀ {j n : Nat} {T : TS} {k : Nat}, (tD (tMk j n T) k).2.1 = (tD T k).2.1 ∧ tN (tMk j n T) = tN T
  | 0, n, T, k => ⟨rfl, rfl⟩
  | j + 1, n, T, k => by
    have ih := tMk_o (j := j) (n := n + 1) (T := tMk1 T n) (k := k)
    exact ⟨ih.1.trans tMk1_o, ih.2.trans tMk1_N⟩
theorem BW.of {T T' : TS} (h : BW T) (h1 : tN T' = tN T) (h2 : ∀ k, (tD T' k).2.1 = (tD T k).2.1) : BW T' := fun n hn m hm => by
  rw [h1] at hn ⊢
  rw [h2] at hm
  exact h n hn m hm
theorem GW.of {T T' : TS} (h : GW T) (h1 : tN T' = tN T) (h2 : ∀ k, (tD T' k).2.1 = (tD T k).2.1) : GW T' := fun n hn m hm => by
  rw [h1] at hn
  rw [h2] at hm
  exact h n hn m hm
def inW (a : Nat) : Prop := (22 ≤ a ∧ a ≤ 26) ∨ a = 28 ∨ a = 29 ∨ inT a
theorem FrP.W {σ σ' : Mem} (h : FrP inT σ σ') : FrP inW σ σ' := h.mono (fun a z => Or.inr (Or.inr (Or.inr z)))
def inX (a : Nat) : Prop := (22 ≤ a ∧ a ≤ 26) ∨ inT a
set_option maxRecDepth 10000 in
set_option maxHeartbeats 1000000 in
theorem c_ResidualProgram_write {G : Ctx} {d : Nat} {Γ : List Sh} {σ : Mem} {Q : Option Value → List Sh → Mem → Prop} {T : TS} {K : Nat} {pt : Nat → Int32} {cs : Nat → Bool}  (hRs : isRes Γ σ) (hT : isTree Γ σ T) (hG : isSg Γ σ 27 pt cs) (hS : isSb Γ σ K) (hK : K + 48 < 1000000000) (hB : BW T) (hW : GW T) (hQ : ∀ σ', isTree Γ σ' (wrt T pt cs).1.1 → isSg Γ σ' 27 (wrt T pt cs).2.1 (wrt T pt cs).2.2 → isSb Γ σ' (K + 48) → FrP inW σ σ' → Q (some (.int (bI (wrt T pt cs).1.2))) Γ σ') : Ct G M_ResidualProgram_write (d + 5) 0 0 [rf G 385] Γ σ Q := by
  obtain ⟨-, -, -, ⟨-, t4b⟩, -⟩ := id hT
  have Rs : ∀ {τ : Mem}, FrP inW σ τ → isRes Γ τ := fun h => hRs.P h (by unfold inW inT; omega)
  have lp2 : ∀ (X0 : WS) (τ0 : Mem), isSg Γ τ0 27 X0.2.1 X0.2.2 → FrP inW σ τ0 → X0 = ownL (tN T) 0 (tMk (tN T) 0 T, pt, cs) → ∀ (m : Nat) (T0 : TS) (τ : Mem), m ≤ tN T → inlL m T0 = inlL (tN T) X0.1 → isTree Γ τ T0 → BW T0 → GW T0 → tN T0 = tN T → isSb Γ τ (K + (tN T - m)) → FrP inX τ0 τ → Wq G M_ResidualProgram_write (Em G (d + 5) 0 0 Q) 0 0 58 [some (rf G 385), some (.int (nI m - 1)), none] [] [] Γ τ := by
    intro X0 τ0 G0 g0 hX m
    have hQ2 : ∀ σ', isTree Γ σ' (inlL (tN T) X0.1).1 → FrP inX τ0 σ' → isSb Γ σ' (K + 48) → Q (some (.int (bI (inlL (tN T) X0.1).2))) Γ σ' := fun σ' a b c => by
      have hw : wrt T pt cs = (inlL (tN T) X0.1, X0.2) := by rw [hX]; rfl
      rw [hw] at hQ
      exact hQ σ' a (G0.P b (by unfold inX inT; omega) (by unfold inX inT; omega) (by unfold inX inT; omega)) c (g0.tr (b.mono (fun a z => by unfold inX inT at z; unfold inW; unfold inT; omega)))
    induction m with
    | zero =>
      intro T0 τ h1 h2 T1 B1 W1 hN1 S1 f0
      refine x_iload_n d_ResidualProgram_write_58 rfl rfl ?_
      refine x_if_lt (tgt := 109) d_ResidualProgram_write_59 (by decide) (fun c59 => ?_) (fun c59 => ?_)
      · refine x_iconst (v := 1) d_ResidualProgram_write_109 (by decide) ?_
        exact x_ireturn d_ResidualProgram_write_110 rfl (by decide) (by have e0 : inlL 0 T0 = (T0, true) := rfl; rw [e0] at h2; have hq := hQ2 τ (by rw [← h2]; exact T1) f0 (S1.mono (by omega)); rw [← h2] at hq; exact hq)
      · exact absurd neg1 c59
    | succ m ih =>
      intro T0 τ h1 h2 T1 B1 W1 hN1 S1 f0
      have mm := T1.nd (show m < 48 by omega)
      rw [nI_m1]
      refine x_iload_n d_ResidualProgram_write_58 rfl rfl ?_
      refine x_if_lt (tgt := 109) d_ResidualProgram_write_59 (by decide) (fun c59 => ?_) (fun c59 => ?_)
      · exact absurd c59 (nI_nneg _ (by omega))
      · first | refine x_aload_n d_ResidualProgram_write_62 rfl rfl ?_ | refine x_aloadN_n d_ResidualProgram_write_62 rfl rfl ?_ | refine x_aloadE_n d_ResidualProgram_write_62 rfl rfl ?_ | refine x_aloadO_n d_ResidualProgram_write_62 rfl rfl ?_
        refine x_getR d_ResidualProgram_write_63 f_ResidualProgram_9 rfl (by exact hRs.1) ((Rs (g0.tr (f0.mono (fun a z => by unfold inX inT at z; unfold inW; unfold inT; omega)))).2.1) ?_
        refine x_iload_n d_ResidualProgram_write_66 rfl rfl ?_
        refine x_callV1 d_ResidualProgram_write_67 k_Tree_get l_ResidualProgram_15 v_Tree_get rfl s_Tree_get (by exact T1.1) RoomE.m (Nat.le_of_ble_eq_true rfl) (c_Tree_get T1 ?_)
        rw [tGet_nI (by omega), if_pos (show m < tN T0 by omega)]
        first | refine x_astore_n d_ResidualProgram_write_70 rfl rfl ?_ | refine x_astoreN_n d_ResidualProgram_write_70 rfl rfl ?_ | refine x_astoreE_n d_ResidualProgram_write_70 rfl rfl ?_ | refine x_astoreO_n d_ResidualProgram_write_70 rfl rfl ?_
        first | refine x_aload_n d_ResidualProgram_write_71 rfl rfl ?_ | refine x_aloadN_n d_ResidualProgram_write_71 rfl rfl ?_ | refine x_aloadE_n d_ResidualProgram_write_71 rfl rfl ?_ | refine x_aloadO_n d_ResidualProgram_write_71 rfl rfl ?_
        refine x_ifnull d_ResidualProgram_write_72 ?_
        first | refine x_aload_n d_ResidualProgram_write_75 rfl rfl ?_ | refine x_aloadN_n d_ResidualProgram_write_75 rfl rfl ?_ | refine x_aloadE_n d_ResidualProgram_write_75 rfl rfl ?_ | refine x_aloadO_n d_ResidualProgram_write_75 rfl rfl ?_
        refine x_getI d_ResidualProgram_write_76 f_ResidualProgram_35 rfl (by exact mm.1) ?_
        rw [show τ.1 (nc m) 10 = (tD T0 m).1 10 from mm.2.1.2 10 rfl]
        refine x_if_ne (tgt := 87) d_ResidualProgram_write_79 (by decide) (fun c79 => ?_) (fun c79 => ?_)
        · have T2 : isTree Γ τ (inl1 T0 m) := by rw [inl1, if_neg c79]; exact T1
          have S2 := S1
          have f2 : FrP inX τ τ := FrP.rf
          first | refine x_aload_n d_ResidualProgram_write_87 rfl rfl ?_ | refine x_aloadN_n d_ResidualProgram_write_87 rfl rfl ?_ | refine x_aloadE_n d_ResidualProgram_write_87 rfl rfl ?_ | refine x_aloadO_n d_ResidualProgram_write_87 rfl rfl ?_
          refine x_ifnull d_ResidualProgram_write_88 ?_
          first | refine x_aload_n d_ResidualProgram_write_91 rfl rfl ?_ | refine x_aloadN_n d_ResidualProgram_write_91 rfl rfl ?_ | refine x_aloadE_n d_ResidualProgram_write_91 rfl rfl ?_ | refine x_aloadO_n d_ResidualProgram_write_91 rfl rfl ?_
          refine x_getR d_ResidualProgram_write_92 f_ResidualProgram_21 rfl (by exact (T2.nd (show m < 48 by omega)).1) ((T2.nd (show m < 48 by omega)).2.2.1.2.1) ?_
          refine x_callV0 d_ResidualProgram_write_95 k_Row_isTooLong l_ResidualProgram_46 v_Row_isTooLong rfl s_Row_isTooLong (by exact (T2.nd (show m < 48 by omega)).2.2.2.2.1) RoomE.m (Nat.le_of_ble_eq_true rfl) (c_Row_isTooLong (T2.nd (show m < 48 by omega)).2.2.2.2 ?_)
          refine x_if_eq (tgt := 103) d_ResidualProgram_write_98 (by decide) (fun c98 => ?_) (fun c98 => ?_)
          · refine x_iinc (v := nI m - 1) d_ResidualProgram_write_103 rfl (by rw [Int32.sub_eq_add_neg]; rfl) rfl ?_
            refine x_goto (tgt := 58) d_ResidualProgram_write_106 (by decide) ?_
            exact Wq.fg (ih (inl1 T0 m) τ (by omega) (by rw [inlL, if_neg (of_decide_eq_false (bI_0 c98))] at h2; exact h2) T2 (B1.of inl1_o.1 inl1_o.2) (W1.of inl1_o.1 inl1_o.2) (by rw [inl1_o.1]; exact hN1) (S2.mono (by omega)) (f0.tr f2)) ⟨rfl, rfl, trivial⟩
          · refine x_iconst (v := 0) d_ResidualProgram_write_101 (by decide) ?_
            exact x_ireturn d_ResidualProgram_write_102 rfl (by decide) (by rw [inlL, if_pos (of_decide_eq_true (bI_n0 c98))] at h2; have hq := hQ2 τ (by rw [← h2]; exact T2) (FrP.tr f0 f2) (S2.mono (by omega)); rw [← h2] at hq; exact hq)
        · first | refine x_aload_n d_ResidualProgram_write_82 rfl rfl ?_ | refine x_aloadN_n d_ResidualProgram_write_82 rfl rfl ?_ | refine x_aloadE_n d_ResidualProgram_write_82 rfl rfl ?_ | refine x_aloadO_n d_ResidualProgram_write_82 rfl rfl ?_
          first | refine x_aload_n d_ResidualProgram_write_83 rfl rfl ?_ | refine x_aloadN_n d_ResidualProgram_write_83 rfl rfl ?_ | refine x_aloadE_n d_ResidualProgram_write_83 rfl rfl ?_ | refine x_aloadO_n d_ResidualProgram_write_83 rfl rfl ?_
          refine x_callV1 d_ResidualProgram_write_84 k_ResidualProgram_writeInline l_ResidualProgram_43 v_ResidualProgram_writeInline rfl s_ResidualProgram_writeInline (by exact hRs.1) RoomE.m (Nat.le_of_ble_eq_true rfl) (c_ResidualProgram_writeInline (Rs (g0.tr (f0.mono (fun a z => by unfold inX inT at z; unfold inW; unfold inT; omega)))) T1 S1 (by omega) B1 W1 (show m < tN T0 by omega) (fun τ2 T2a S2 f2a => ?_))
          have T2 : isTree Γ τ2 (inl1 T0 m) := by rw [inl1, if_pos c79]; exact T2a
          have f2 : FrP inX τ τ2 := f2a.mono (fun a z => by unfold inN at z; unfold inX inT; omega)
          first | refine x_aload_n d_ResidualProgram_write_87 rfl rfl ?_ | refine x_aloadN_n d_ResidualProgram_write_87 rfl rfl ?_ | refine x_aloadE_n d_ResidualProgram_write_87 rfl rfl ?_ | refine x_aloadO_n d_ResidualProgram_write_87 rfl rfl ?_
          refine x_ifnull d_ResidualProgram_write_88 ?_
          first | refine x_aload_n d_ResidualProgram_write_91 rfl rfl ?_ | refine x_aloadN_n d_ResidualProgram_write_91 rfl rfl ?_ | refine x_aloadE_n d_ResidualProgram_write_91 rfl rfl ?_ | refine x_aloadO_n d_ResidualProgram_write_91 rfl rfl ?_
          refine x_getR d_ResidualProgram_write_92 f_ResidualProgram_21 rfl (by exact (T2.nd (show m < 48 by omega)).1) ((T2.nd (show m < 48 by omega)).2.2.1.2.1) ?_
          refine x_callV0 d_ResidualProgram_write_95 k_Row_isTooLong l_ResidualProgram_46 v_Row_isTooLong rfl s_Row_isTooLong (by exact (T2.nd (show m < 48 by omega)).2.2.2.2.1) RoomE.m (Nat.le_of_ble_eq_true rfl) (c_Row_isTooLong (T2.nd (show m < 48 by omega)).2.2.2.2 ?_)
          refine x_if_eq (tgt := 103) d_ResidualProgram_write_98 (by decide) (fun c98 => ?_) (fun c98 => ?_)
          · refine x_iinc (v := nI m - 1) d_ResidualProgram_write_103 rfl (by rw [Int32.sub_eq_add_neg]; rfl) rfl ?_
            refine x_goto (tgt := 58) d_ResidualProgram_write_106 (by decide) ?_
            exact Wq.fg (ih (inl1 T0 m) τ2 (by omega) (by rw [inlL, if_neg (of_decide_eq_false (bI_0 c98))] at h2; exact h2) T2 (B1.of inl1_o.1 inl1_o.2) (W1.of inl1_o.1 inl1_o.2) (by rw [inl1_o.1]; exact hN1) (S2.mono (by omega)) (f0.tr f2)) ⟨rfl, rfl, trivial⟩
          · refine x_iconst (v := 0) d_ResidualProgram_write_101 (by decide) ?_
            exact x_ireturn d_ResidualProgram_write_102 rfl (by decide) (by rw [inlL, if_pos (of_decide_eq_true (bI_n0 c98))] at h2; have hq := hQ2 τ2 (by rw [← h2]; exact T2) (FrP.tr f0 f2) (S2.mono (by omega)); rw [← h2] at hq; exact hq)
  have lp1 : ∀ (k : Nat) (i : Nat) (X : WS) (τ : Mem), i + k = tN T → tN X.1 = tN T → ownL k i X = ownL (tN T) 0 (tMk (tN T) 0 T, pt, cs) → isTree Γ τ X.1 → BW X.1 → GW X.1 → isSb Γ τ K → isSg Γ τ 27 X.2.1 X.2.2 → FrP inW σ τ → Wq G M_ResidualProgram_write (Em G (d + 5) 0 0 Q) 0 0 6 [some (rf G 385), some (.int (nI i)), none] [] [] Γ τ := by
    intro k
    induction k with
    | zero =>
      intro i X τ h1 h2 h3 T1 B1 W1 S1 G1 f0
      refine x_iload_n d_ResidualProgram_write_6 rfl rfl ?_
      first | refine x_aload_n d_ResidualProgram_write_7 rfl rfl ?_ | refine x_aloadN_n d_ResidualProgram_write_7 rfl rfl ?_ | refine x_aloadE_n d_ResidualProgram_write_7 rfl rfl ?_ | refine x_aloadO_n d_ResidualProgram_write_7 rfl rfl ?_
      refine x_getR d_ResidualProgram_write_8 f_ResidualProgram_9 rfl (by exact hRs.1) ((Rs f0).2.1) ?_
      refine x_callV0 d_ResidualProgram_write_11 k_Tree_count l_ResidualProgram_31 v_Tree_count rfl s_Tree_count (by exact T1.1) RoomE.m (Nat.le_of_ble_eq_true rfl) (c_Tree_count T1 ?_)
      refine x_icmp_ge (tgt := 48) d_ResidualProgram_write_14 (by decide) (fun c14 => ?_) (fun c14 => ?_)
      · first | refine x_aload_n d_ResidualProgram_write_48 rfl rfl ?_ | refine x_aloadN_n d_ResidualProgram_write_48 rfl rfl ?_ | refine x_aloadE_n d_ResidualProgram_write_48 rfl rfl ?_ | refine x_aloadO_n d_ResidualProgram_write_48 rfl rfl ?_
        refine x_getR d_ResidualProgram_write_49 f_ResidualProgram_9 rfl (by exact hRs.1) ((Rs f0).2.1) ?_
        refine x_callV0 d_ResidualProgram_write_52 k_Tree_count l_ResidualProgram_31 v_Tree_count rfl s_Tree_count (by exact T1.1) RoomE.m (Nat.le_of_ble_eq_true rfl) (c_Tree_count T1 ?_)
        refine x_iconst (v := 1) d_ResidualProgram_write_55 (by decide) ?_
        refine x_isub d_ResidualProgram_write_56 ?_
        refine x_istore_n d_ResidualProgram_write_57 rfl rfl ?_
        have e0 : ownL 0 i X = X := rfl
        rw [e0] at h3
        exact Wq.fg (lp2 X τ G1 f0 h3 (tN T) X.1 τ (Nat.le_refl _) rfl T1 B1 W1 h2 (S1.mono (by omega)) FrP.rf) ⟨rfl, by rw [h2], trivial⟩
      · exact absurd (nI_le (by omega) (by omega)) c14
    | succ k ih =>
      intro i X τ h1 h2 h3 T1 B1 W1 S1 G1 f0
      have hi : i < tN X.1 := by omega
      have mm := T1.nd (show i < 48 by omega)
      refine x_iload_n d_ResidualProgram_write_6 rfl rfl ?_
      first | refine x_aload_n d_ResidualProgram_write_7 rfl rfl ?_ | refine x_aloadN_n d_ResidualProgram_write_7 rfl rfl ?_ | refine x_aloadE_n d_ResidualProgram_write_7 rfl rfl ?_ | refine x_aloadO_n d_ResidualProgram_write_7 rfl rfl ?_
      refine x_getR d_ResidualProgram_write_8 f_ResidualProgram_9 rfl (by exact hRs.1) ((Rs f0).2.1) ?_
      refine x_callV0 d_ResidualProgram_write_11 k_Tree_count l_ResidualProgram_31 v_Tree_count rfl s_Tree_count (by exact T1.1) RoomE.m (Nat.le_of_ble_eq_true rfl) (c_Tree_count T1 ?_)
      refine x_icmp_ge (tgt := 48) d_ResidualProgram_write_14 (by decide) (fun c14 => ?_) (fun c14 => ?_)
      · rw [nI_leI (by omega) (by omega)] at c14; omega
      · first | refine x_aload_n d_ResidualProgram_write_17 rfl rfl ?_ | refine x_aloadN_n d_ResidualProgram_write_17 rfl rfl ?_ | refine x_aloadE_n d_ResidualProgram_write_17 rfl rfl ?_ | refine x_aloadO_n d_ResidualProgram_write_17 rfl rfl ?_
        refine x_getR d_ResidualProgram_write_18 f_ResidualProgram_9 rfl (by exact hRs.1) ((Rs f0).2.1) ?_
        refine x_iload_n d_ResidualProgram_write_21 rfl rfl ?_
        refine x_callV1 d_ResidualProgram_write_22 k_Tree_get l_ResidualProgram_15 v_Tree_get rfl s_Tree_get (by exact T1.1) RoomE.m (Nat.le_of_ble_eq_true rfl) (c_Tree_get T1 ?_)
        rw [tGet_nI (by omega), if_pos hi]
        first | refine x_astore_n d_ResidualProgram_write_25 rfl rfl ?_ | refine x_astoreN_n d_ResidualProgram_write_25 rfl rfl ?_ | refine x_astoreE_n d_ResidualProgram_write_25 rfl rfl ?_ | refine x_astoreO_n d_ResidualProgram_write_25 rfl rfl ?_
        first | refine x_aload_n d_ResidualProgram_write_26 rfl rfl ?_ | refine x_aloadN_n d_ResidualProgram_write_26 rfl rfl ?_ | refine x_aloadE_n d_ResidualProgram_write_26 rfl rfl ?_ | refine x_aloadO_n d_ResidualProgram_write_26 rfl rfl ?_
        refine x_ifnull d_ResidualProgram_write_27 ?_
        first | refine x_aload_n d_ResidualProgram_write_30 rfl rfl ?_ | refine x_aloadN_n d_ResidualProgram_write_30 rfl rfl ?_ | refine x_aloadE_n d_ResidualProgram_write_30 rfl rfl ?_ | refine x_aloadO_n d_ResidualProgram_write_30 rfl rfl ?_
        refine x_getI d_ResidualProgram_write_31 f_ResidualProgram_35 rfl (by exact mm.1) ?_
        rw [show τ.1 (nc i) 10 = (tD X.1 i).1 10 from mm.2.1.2 10 rfl]
        refine x_if_eq (tgt := 42) d_ResidualProgram_write_34 (by decide) (fun c34 => ?_) (fun c34 => ?_)
        · refine x_iinc (v := nI (i + 1)) d_ResidualProgram_write_42 rfl (nI_1 i) rfl ?_
          refine x_goto (tgt := 6) d_ResidualProgram_write_45 (by decide) ?_
          exact Wq.fg (ih (i + 1) (own1 X i) τ (by omega) (by rw [own1_o.1]; exact h2) h3 (by rw [own1, if_pos c34]; exact T1) (B1.of own1_o.1 own1_o.2) (W1.of own1_o.1 own1_o.2) S1 (by rw [own1, if_pos c34]; exact G1) f0) ⟨rfl, rfl, trivial⟩
        · first | refine x_aload_n d_ResidualProgram_write_37 rfl rfl ?_ | refine x_aloadN_n d_ResidualProgram_write_37 rfl rfl ?_ | refine x_aloadE_n d_ResidualProgram_write_37 rfl rfl ?_ | refine x_aloadO_n d_ResidualProgram_write_37 rfl rfl ?_
          first | refine x_aload_n d_ResidualProgram_write_38 rfl rfl ?_ | refine x_aloadN_n d_ResidualProgram_write_38 rfl rfl ?_ | refine x_aloadE_n d_ResidualProgram_write_38 rfl rfl ?_ | refine x_aloadO_n d_ResidualProgram_write_38 rfl rfl ?_
          refine x_callV1 d_ResidualProgram_write_39 k_ResidualProgram_writeOwnCall l_ResidualProgram_39 v_ResidualProgram_writeOwnCall rfl s_ResidualProgram_writeOwnCall (by exact hRs.1) RoomE.m (Nat.le_of_ble_eq_true rfl) (c_ResidualProgram_writeOwnCall (Rs f0) T1 G1 hi (fun τ2 T2 G2 f2 => ?_))
          refine x_iinc (v := nI (i + 1)) d_ResidualProgram_write_42 rfl (nI_1 i) rfl ?_
          refine x_goto (tgt := 6) d_ResidualProgram_write_45 (by decide) ?_
          exact Wq.fg (ih (i + 1) (own1 X i) τ2 (by omega) (by rw [own1_o.1]; exact h2) h3 (by rw [own1, if_neg c34]; exact T2) (B1.of own1_o.1 own1_o.2) (W1.of own1_o.1 own1_o.2) (S1.P f2 (fun a h1 h2 h3 => by unfold inT at h3; omega)) (by rw [own1, if_neg c34]; exact G2) (f0.tr (f2.mono (fun a z => by unfold inW; rcases z with z | z | z; exact Or.inr (Or.inr (Or.inr z)); exact Or.inr (Or.inl z); exact Or.inr (Or.inr (Or.inl z)))))) ⟨rfl, rfl, trivial⟩
  refine Ct.of (lv := [some (rf G 385), none, none]) (ll := []) rfl rfl (EN.cat (n := 2) ⟨rfl, trivial⟩ (Nat.le_of_ble_eq_true rfl)) ?_
  first | refine x_aload_n d_ResidualProgram_write_0 rfl rfl ?_ | refine x_aloadN_n d_ResidualProgram_write_0 rfl rfl ?_ | refine x_aloadE_n d_ResidualProgram_write_0 rfl rfl ?_ | refine x_aloadO_n d_ResidualProgram_write_0 rfl rfl ?_
  refine x_callV0 d_ResidualProgram_write_1 k_ResidualProgram_markFunctions l_ResidualProgram_27 v_ResidualProgram_markFunctions rfl s_ResidualProgram_markFunctions (by exact hRs.1) RoomE.m (Nat.le_of_ble_eq_true rfl) (c_ResidualProgram_markFunctions hRs hT (fun τ1 T1 f1 => ?_))
  refine x_iconst (v := 0) d_ResidualProgram_write_4 (by decide) ?_
  refine x_istore_n d_ResidualProgram_write_5 rfl rfl ?_
  exact Wq.fg (lp1 (tN T) 0 (tMk (tN T) 0 T, pt, cs) τ1 (by omega) (tMk_o (k := 0)).2 rfl T1 (hB.of (tMk_o (k := 0)).2 (fun k => tMk_o.1)) (hW.of (tMk_o (k := 0)).2 (fun k => tMk_o.1)) (hS.P f1 (fun a h1 h2 h3 => by unfold inT at h3; omega)) (sg_T hG f1) f1.W) ⟨rfl, by rw [nI_0], trivial⟩
