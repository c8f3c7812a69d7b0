/-! Driver.step, addClause -/
def SgOK (pt : Nat → Int32) (cs : Nat → Bool) : Prop := PB (sgP pt) ∧ ∀ s, sgC cs s = true → 1 ≤ nP (sgP pt) s
def ucN (pt : Nat → Int32) (cs : Nat → Bool) (zs : List Int32) (a : Nat) : Nat := (ucI pt cs zs a).toNatClampNeg
theorem pK_nat (x : Int32) : ∃ q, q ≤ 2 ∧ pK x = nI q := by
  unfold pK
  split
  · exact ⟨0, by decide, by rw [nI_0]⟩
  · split
    · exact ⟨0, by decide, by rw [nI_0]⟩
    · unfold cPt
      split
      all_goals first | exact ⟨0, by decide, by decide⟩ | exact ⟨1, by decide, by decide⟩ | exact ⟨2, by decide, by decide⟩
theorem caf_c {cs : Nat → Bool} {zs : List Int32} {a : Nat} (h : ¬ caf cs zs a = -1) : sgC cs (zs.getD a (-1)) = true ∧ isK (zs.getD (a + 1) (-1)) = true := by
  unfold caf at h
  split at h
  · next z => exact Bool.and_eq_true_iff.mp z
  · exact absurd rfl h
theorem ucI_nat {pt : Nat → Int32} {cs : Nat → Bool} {zs : List Int32} {a : Nat} (h : SgOK pt cs) : ucI pt cs zs a = nI (ucN pt cs zs a) ∧ ucN pt cs zs a ≤ 100 := by
  have hp := h.1.le (zs.getD a (-1))
  have key : ∃ m, m ≤ 100 ∧ ucI pt cs zs a = nI m := by
    unfold ucI
    split
    · exact ⟨_, by omega, hp.2⟩
    · next e =>
      have h1 := h.2 _ (caf_c e).1
      obtain ⟨q, hq, eq⟩ := pK_nat (caf cs zs a)
      refine ⟨nP (sgP pt) (zs.getD a (-1)) + q - 1, by omega, ?_⟩
      rw [eq, hp.2]
      have e1 : nP (sgP pt) (nI (nP (sgP pt) (zs.getD a (-1)))) = nP (sgP pt) (nI (nP (sgP pt) (zs.getD a (-1)))) := rfl
      generalize nP (sgP pt) (zs.getD a (-1)) = m at h1
      obtain ⟨m', rfl⟩ : ∃ m', m = m' + 1 := ⟨m - 1, by omega⟩
      have e2 : nI (m' + 1) = nI m' + 1 := by rw [nI_1]
      have e3 : nI (m' + 1 + q - 1) = nI m' + nI q := by rw [nI_add]; congr 1; omega
      rw [e2, e3]
      generalize nI m' = x
      generalize nI q = y
      apply Int32.toInt_inj.mp
      simp only [Int32.toInt_add, Int32.toInt_sub]
      have : (1 : Int32).toInt = 1 := by decide
      rw [this]
      simp only [Int.bmod_add_bmod, Int.add_bmod_bmod]
      congr 1
      omega
  obtain ⟨m, hm, e⟩ := key
  unfold ucN
  rw [e, nI_clamp (by omega)]
  exact ⟨rfl, hm⟩
def sBd (bd : Nat → List Int32) (s x : Int32) : List Int32 := match sB bd s x with
  | some i => bd i
  | none => []
def uL (pt : Nat → Int32) (cs : Nat → Bool) (bd : Nat → List Int32) (zs : List Int32) (a : Nat) : List Int32 := unf (sgP pt) zs nI a (up0 cs zs a) (ucN pt cs zs a) (sBd bd (zs.getD a (-1)) (caf cs zs a))
def isSb (Γ : List Sh) (σ : Mem) (K : Nat) : Prop := ∃ k β, k ≤ K ∧ isSub Γ σ 22 k β
theorem isSb.P {Γ : List Sh} {σ σ' : Mem} {K : Nat} {X : Nat → Prop} (h : isSb Γ σ K) (hf : FrP X σ σ') (h0 : ∀ a, 22 ≤ a → a ≤ 26 → ¬ X a) : isSb Γ σ' K := by
  obtain ⟨k, β, a, b⟩ := h
  exact ⟨k, β, a, b.P hf (h0 _ (by omega) (by omega)) (h0 _ (by omega) (by omega)) (h0 _ (by omega) (by omega)) (h0 _ (by omega) (by omega)) (h0 _ (by omega) (by omega))⟩
theorem isSb.mono {Γ : List Sh} {σ : Mem} {K L : Nat} (h : isSb Γ σ K) (hl : K ≤ L) : isSb Γ σ L := by
  obtain ⟨k, β, a, b⟩ := h
  exact ⟨k, β, by omega, b⟩
theorem sB_lt {bd : Nat → List Int32} {s x : Int32} {i : Nat} (h : sB bd s x = some i) : i < 48 := by
  unfold sB at h
  split at h
  · cases h
  · next j hj =>
    split at h
    · cases h
    · cases h; exact plc_lt hj
theorem c_srcUnfold {G : Ctx} {d : Nat} {Γ : List Sh} {σ : Mem} {Q : Option Value → List Sh → Mem → Prop} {r n a K rt nt : Nat} {ys ts : List Int32} {pt : Nat → Int32} {cs : Nat → Bool} {bd : Nat → List Int32} (hSrc : isSrc Γ σ 33 27 22 bd) (hG : isSg Γ σ 27 pt cs) (hOK : SgOK pt cs) (hS : isSb Γ σ K) (hK : K < 1000000000) (hR : isRow Γ σ r n ys) (hT : isRow Γ σ rt nt ts) (hr : 133 ≤ r) (hrt : 133 ≤ rt) (hne : r ≠ rt) (ha : a < (ys.take n).length)
    (hQ : ∀ σ', isSb Γ σ' (K + 1) → isRow Γ σ' rt nt (uL pt cs bd (ys.take n) a) → Fr [22, 23, 24, 25, 26, rt, rt + 1] σ σ' → Q none Γ σ') : Ct G M_Program_unfold (d + 3) 0 0 [rf G 33, rf G r, .int (nI a), rf G rt] Γ σ Q := by
  obtain ⟨k, β, hk, hSub⟩ := hS
  have hc := ucI_nat (zs := ys.take n) (a := a) hOK
  refine c_unfold_4 (pb := fun s x => (sB bd s x).map (fun i => 33 + 2 + 2 * i)) (pv := nI) (bs := sBd bd ((ys.take n).getD a (-1)) (caf cs (ys.take n) a)) hSrc.pr hG hSub (by omega) hR hT (by omega) (by omega) hne ha hc.1 (by omega) (fun Q2 s x h => c_SourceProgram_bodyOf hSrc h) ?_ (fun Q2 τ j _ _ h => c_SourceProgram_variableOf h) (fun σ' β' h1 h2 h3 => hQ σ' ⟨k + 1, β', by omega, h1⟩ h2 h3)
  unfold sBd
  rcases hb : sB bd ((ys.take n).getD a (-1)) (caf cs (ys.take n) a) with _ | i
  · rfl
  · have hi := sB_lt hb
    have h6 := hSrc.2.2.2.2.2 i hi
    exact ⟨24, bd i, h6.2.1, by show 33 + 2 + 2 * i ≠ rt; omega, by show 33 ≤ 33 + 2 + 2 * i; omega, by rw [List.take_of_length_le h6.2.2]⟩
def inDr (a : Nat) : Prop := (22 ≤ a ∧ a ≤ 26) ∨ (30 ≤ a ∧ a ≤ 32) ∨ (131 ≤ a ∧ a ≤ 384)
theorem sg_Dr {Γ : List Sh} {σ σ' : Mem} {pt : Nat → Int32} {cs : Nat → Bool} (h : isSg Γ σ 27 pt cs) (hf : FrP inDr σ σ') : isSg Γ σ' 27 pt cs := h.P hf (by unfold inDr; omega) (by unfold inDr; omega) (by unfold inDr; omega)
theorem src_Dr {Γ : List Sh} {σ σ' : Mem} {bd : Nat → List Int32} (h : isSrc Γ σ 33 27 22 bd) (hf : FrP inDr σ σ') : isSrc Γ σ' 33 27 22 bd := h.P hf (fun a h1 h2 => by unfold inDr; omega)
theorem FrP.Dr {σ σ' : Mem} (h : FrP inT σ σ') : FrP inDr σ σ' := h.mono (fun a z => by unfold inT at z; unfold inDr; omega)
def tStep (pt : Nat → Int32) (cs : Nat → Bool) (bd : Nat → List Int32) (T : TS) (n a : Nat) : TS := (tAdd (tUp T n (nBecome (tD T n) 3 (-1))) (some n) ((uL pt cs bd (t40 T n) a).take 40) (decide (40 < (uL pt cs bd (t40 T n) a).length))).1
set_option maxRecDepth 10000 in
set_option maxHeartbeats 1000000 in
theorem c_Driver_step {G : Ctx} {d : Nat} {Γ : List Sh} {σ : Mem} {Q : Option Value → List Sh → Mem → Prop} {T : TS} {n a K : Nat} {pt : Nat → Int32} {cs : Nat → Bool} {bd : Nat → List Int32}  (hD : isDrv Γ σ) (hT : isTree Γ σ T) (hG : isSg Γ σ 27 pt cs) (hSrc : isSrc Γ σ 33 27 22 bd) (hOK : SgOK pt cs) (hS : isSb Γ σ K) (hK : K < 1000000000) (hnt : n < tN T) (ha : a < (t40 T n).length) (hQ : ∀ σ', isTree Γ σ' (tStep pt cs bd T n a) → isDrv Γ σ' → isSb Γ σ' (K + 1) → FrP (fun b => (22 ≤ b ∧ b ≤ 26) ∨ inT b ∨ b = 374 ∨ b = 375) σ σ' → Q none Γ σ') : Ct G M_Driver_step (d + 4) 0 0 [rf G 373, rf G (133 + 5 * n), .int (nI a)] Γ σ Q := by
  obtain ⟨v0, ⟨v1, v2, v3, v4, v5, v6, v7, v8⟩, ⟨y1, w1⟩, ⟨y2, w2⟩, ⟨y3, w3⟩⟩ := id hD
  obtain ⟨t1, -, -, ⟨-, t4b⟩, -⟩ := id hT
  have hn : n < 48 := by omega
  have hN := hT.nd hn
  obtain ⟨n0, -, ⟨q1, -⟩, nt, -⟩ := id hN

  refine Ct.of (lv := [some (rf G 373), some (rf G (133 + 5 * n)), some (.int (nI a))]) (ll := []) rfl rfl (EN.cat (n := 0) ⟨rfl, rfl, rfl, trivial⟩ (Nat.le_of_ble_eq_true rfl)) ?_
  first | refine x_aload_n d_Driver_step_0 rfl rfl ?_ | refine x_aloadN_n d_Driver_step_0 rfl rfl ?_ | refine x_aloadE_n d_Driver_step_0 rfl rfl ?_ | refine x_aloadO_n d_Driver_step_0 rfl rfl ?_
  refine x_iconst (v := 3) d_Driver_step_1 (by decide) ?_
  refine x_iconst (v := -1) d_Driver_step_2 (by decide) ?_
  refine x_callV2 d_Driver_step_3 k_Node_become l_Driver_111 v_Node_become rfl s_Node_become (by exact n0) RoomE.m (Nat.le_of_ble_eq_true rfl) (c_Node_become hN (fun τ1 N1 f1 => ?_))
  have f2 : FrP (inN n) σ τ1 := f1.N (by simp [inN] <;> omega)
  have T1 := hT.up hn f2 N1
  have fT := f2.T hn
  have Sr1 := src_Dr hSrc fT.Dr
  have G1 := sg_T hG fT
  have S1 := hS.P fT (fun a h1 h2 h3 => by unfold inT at h3; omega)
  have D1row := w1.P fT (by unfold inT; omega) (by unfold inT; omega)
  have v2 : τ1.2.1 373 1 = some 33 := by rw [(f1 373 (by simp; omega)).2.1]; exact v2
  have v6 : τ1.2.1 373 5 = some 374 := by rw [(f1 373 (by simp; omega)).2.1]; exact v6
  have v3 : τ1.2.1 373 2 = some 131 := by rw [(f1 373 (by simp; omega)).2.1]; exact v3
  have e40 : (ntm (tD (tUp T n (nBecome (tD T n) 3 (-1))) n)).take 40 = t40 T n := by rw [tD_up]; rfl
  have ha1 : a < ((ntm (tD (tUp T n (nBecome (tD T n) 3 (-1))) n)).take 40).length := by rw [e40]; exact ha
  first | refine x_aload_n d_Driver_step_6 rfl rfl ?_ | refine x_aloadN_n d_Driver_step_6 rfl rfl ?_ | refine x_aloadE_n d_Driver_step_6 rfl rfl ?_ | refine x_aloadO_n d_Driver_step_6 rfl rfl ?_
  refine x_getR d_Driver_step_7 f_Driver_30 rfl (by assumption) (by assumption) ?_
  first | refine x_aload_n d_Driver_step_10 rfl rfl ?_ | refine x_aloadN_n d_Driver_step_10 rfl rfl ?_ | refine x_aloadE_n d_Driver_step_10 rfl rfl ?_ | refine x_aloadO_n d_Driver_step_10 rfl rfl ?_
  refine x_getR d_Driver_step_11 f_Driver_78 rfl (by exact n0) ((T1.nd hn).2.2.1.1) ?_
  refine x_iload_n d_Driver_step_14 rfl rfl ?_
  first | refine x_aload_n d_Driver_step_15 rfl rfl ?_ | refine x_aloadN_n d_Driver_step_15 rfl rfl ?_ | refine x_aloadE_n d_Driver_step_15 rfl rfl ?_ | refine x_aloadO_n d_Driver_step_15 rfl rfl ?_
  refine x_getR d_Driver_step_16 f_Driver_14 rfl (by assumption) (by assumption) ?_
  refine x_callU3 d_Driver_step_19 k_Program_unfold l_Driver_158 sm_Program_unfold ⟨by decide, by decide⟩ (by decide +kernel) (Or.inr ⟨_, _, _, v_Program_unfold, (k_Program_unfold).1⟩) v_Program_unfold rfl s4_Program_unfold (by exact Sr1.1) RoomE.m (Nat.le_of_ble_eq_true rfl) (c_srcUnfold Sr1 G1 hOK S1 hK (T1.nd hn).2.2.2.1 D1row (by omega) (by omega) (by omega) ha1 (fun τ2 S2 R2 f3 => ?_))
  rw [e40] at R2
  have T2 := T1.P (f3.P (T := fun b => (22 ≤ b ∧ b ≤ 26) ∨ b = 374 ∨ b = 375) (by simp)) (fun b hb hc => by unfold inT at hb; omega)
  first | refine x_aload_n d_Driver_step_22 rfl rfl ?_ | refine x_aloadN_n d_Driver_step_22 rfl rfl ?_ | refine x_aloadE_n d_Driver_step_22 rfl rfl ?_ | refine x_aloadO_n d_Driver_step_22 rfl rfl ?_
  refine x_getR d_Driver_step_23 f_Driver_34 rfl (by assumption) (by rw [(f3 373 (by simp)).2.1]; exact v3) ?_
  first | refine x_aload_n d_Driver_step_26 rfl rfl ?_ | refine x_aloadN_n d_Driver_step_26 rfl rfl ?_ | refine x_aloadE_n d_Driver_step_26 rfl rfl ?_ | refine x_aloadO_n d_Driver_step_26 rfl rfl ?_
  first | refine x_aload_n d_Driver_step_27 rfl rfl ?_ | refine x_aloadN_n d_Driver_step_27 rfl rfl ?_ | refine x_aloadE_n d_Driver_step_27 rfl rfl ?_ | refine x_aloadO_n d_Driver_step_27 rfl rfl ?_
  refine x_getR d_Driver_step_28 f_Driver_14 rfl (by assumption) (by rw [(f3 373 (by simp)).2.1]; exact v6) ?_
  refine x_iconst (v := 0) d_Driver_step_31 (by decide) ?_
  first | refine x_aload_n d_Driver_step_32 rfl rfl ?_ | refine x_aloadN_n d_Driver_step_32 rfl rfl ?_ | refine x_aloadE_n d_Driver_step_32 rfl rfl ?_ | refine x_aloadO_n d_Driver_step_32 rfl rfl ?_
  refine x_getR d_Driver_step_33 f_Driver_14 rfl (by assumption) (by rw [(f3 373 (by simp)).2.1]; exact v6) ?_
  refine x_callV0 d_Driver_step_36 k_Row_length l_Driver_56 v_Row_length rfl s_Row_length (by exact w1.1) RoomE.m (Nat.le_of_ble_eq_true rfl) (c_Row_length R2 ?_)
  refine x_callV4 d_Driver_step_39 k_Tree_add l_Driver_60 v_Tree_add rfl s_Tree_add (by exact t1) RoomE.m (Nat.le_of_ble_eq_true rfl) (c_Tree_add (f := 0) (ab := some n) T2 R2 (fun h => by unfold inN; show ¬ (133 + 5 * tN T ≤ 374 ∧ _); have h7 : tN T < 48 := h; omega) (by omega) (lk48.s hn) (Nat.zero_le _) (Nat.le_refl _) (fun τ3 T3 f4 => ?_))
  first | refine x_pop d_Driver_step_42 ov_cat ?_ | refine x_pop d_Driver_step_42 rfl ?_
  exact x_return d_Driver_step_43 rfl (by
    have e9 : (((uL pt cs bd (t40 T n) a).take 40).take ((uL pt cs bd (t40 T n) a).take 40).length).drop 0 = (uL pt cs bd (t40 T n) a).take 40 := by rw [List.take_of_length_le (Nat.le_refl _)]; rfl
    rw [e9] at T3
    have g3 : FrP (fun b => (22 ≤ b ∧ b ≤ 26) ∨ inT b ∨ b = 374 ∨ b = 375) τ1 τ2 := f3.P (by simp)
    refine hQ τ3 T3 ?_ (S2.P f4 (fun a h1 h2 h3 => by unfold inT at h3; omega)) (((fT.mono (fun b z => Or.inr (Or.inl z))).tr g3).tr (f4.mono (fun b z => Or.inr (Or.inl z))))
    have D3 : isDrv Γ τ2 := by
      refine ⟨v0, ?_, ⟨_, R2⟩, ⟨y2, (w2.P fT (by unfold inT; omega) (by unfold inT; omega)).Fr f3 (by simp) (by simp)⟩, ⟨y3, (w3.P fT (by unfold inT; omega) (by unfold inT; omega)).Fr f3 (by simp) (by simp)⟩⟩
      rw [(f3 373 (by simp)).2.1]
      exact (hD.T fT).2.1
    exact D3.T f4)
/-! addClause -/
def tNK : Nat → TS → List Int32 → TS × List Int32
  | 0, T, l => (T, l)
  | k + 1, T, l => tNK k (tNew T).1 (l ++ [(tNew T).2])
theorem tNK_o : ∀ {k : Nat} {T : TS} {l : List Int32}, tD (tNK k T l).1 = tD T ∧ tN (tNK k T l).1 = tN T ∧ (tNK k T l).2.length = l.length + k
  | 0, T, l => ⟨rfl, rfl, rfl⟩
  | k + 1, T, l => by
    have ih := tNK_o (k := k) (T := (tNew T).1) (l := l ++ [(tNew T).2])
    refine ⟨ih.1.trans tNew_o.1, ih.2.1.trans tNew_o.2, ?_⟩
    show (tNK k (tNew T).1 (l ++ [(tNew T).2])).2.length = _
    rw [ih.2.2]
    simp
    omega
def qK (c : Nat) : Nat := (pK (nI c)).toNatClampNeg
def aPat (T : TS) (c : Nat) : TS × List Int32 := tNK (qK c) T [100 + nI c]
def sbV (v : Int32) (pl : List Int32) (s : Int32) : List Int32 := if isV s = true ∧ s = v then pl else [s]
def aRep (T : TS) (n c : Nat) (v : Int32) : List Int32 := (t40 T n).flatMap (sbV v (aPat T c).2)
def aFst (T : TS) (c : Nat) : Int32 := if qK c = 0 then -1 else (aPat T c).2.getD 1 (-1)
def tSet (R : TS × Option Nat) (c : Nat) (w : Int32) : TS := match R.2 with
  | none => R.1
  | some m => tUp R.1 m (xi (xi (tD R.1 m) 11 (nI c)) 12 w)
def tCls (pt : Nat → Int32) (cs : Nat → Bool) (bd : Nat → List Int32) (T : TS) (n a : Nat) (v : Int32) (c : Nat) : TS :=
  tSet (tAdd (aPat T c).1 (some n) ((uL pt cs bd (aRep T n c v) a).take 40) (decide (40 < (uL pt cs bd (aRep T n c v) a).length))) c (aFst T c)
theorem qK_nat (c : Nat) : qK c ≤ 2 ∧ pK (nI c) = nI (qK c) := by
  obtain ⟨q, h1, h2⟩ := pK_nat (nI c)
  unfold qK
  rw [h2, nI_clamp (by omega)]
  exact ⟨h1, rfl⟩
theorem fm_le {f : Int32 → List Int32} {k : Nat} : ∀ {l : List Int32}, (∀ s, (f s).length ≤ k) → (l.flatMap f).length ≤ k * l.length
  | [], _ => Nat.zero_le _
  | s :: l, h => by
    have ih := fm_le (l := l) h
    rw [List.flatMap_cons, List.length_append, List.length_cons, Nat.mul_succ]
    have := h s
    omega
theorem fm_ge {f : Int32 → List Int32} : ∀ {l : List Int32}, (∀ s, 1 ≤ (f s).length) → l.length ≤ (l.flatMap f).length
  | [], _ => Nat.zero_le _
  | s :: l, h => by
    have ih := fm_ge (l := l) h
    rw [List.flatMap_cons, List.length_append, List.length_cons]
    have := h s
    omega
theorem sbV_len {v : Int32} {pl : List Int32} {s : Int32} (h : 1 ≤ pl.length) (h3 : pl.length ≤ 3) : 1 ≤ (sbV v pl s).length ∧ (sbV v pl s).length ≤ 3 := by
  unfold sbV
  split
  · exact ⟨h, h3⟩
  · exact ⟨Nat.le_refl _, by simp⟩
theorem sbV_sub {v : Int32} {pl : List Int32} {tt : Nat × Nat × Nat} (hv : isV v = true) (s : Int32) : sub1 (upN (fun _ => none) v.toNatClampNeg (some tt)) (fun _ => pl) s = sbV v pl s := by
  unfold sub1 sbV
  by_cases hs : isV s = true
  · rw [if_pos hs]
    by_cases e : s = v
    · rw [if_pos ⟨hs, e⟩, e]
      simp [upN]
    · rw [if_neg (fun z => e z.2)]
      have : ¬ s.toNatClampNeg = v.toNatClampNeg := fun z => e (isV_inj hs hv z)
      simp [upN, this]
  · rw [if_neg hs, if_neg (fun z => hs z.1)]
set_option maxRecDepth 10000 in
set_option maxHeartbeats 1000000 in
theorem c_Driver_addClause {G : Ctx} {d : Nat} {Γ : List Sh} {σ : Mem} {Q : Option Value → List Sh → Mem → Prop} {T : TS} {n a K : Nat} {pt : Nat → Int32} {cs : Nat → Bool} {bd : Nat → List Int32} {v : Int32} {c : Nat}  (hD : isDrv Γ σ) (hT : isTree Γ σ T) (hG : isSg Γ σ 27 pt cs) (hSrc : isSrc Γ σ 33 27 22 bd) (hOK : SgOK pt cs) (hS : isSb Γ σ K) (hK : K + 1 < 1000000000) (hnt : n < tN T) (ha : a < (t40 T n).length) (hv : isV v = true) (hQ : ∀ σ', isTree Γ σ' (tCls pt cs bd T n a v c) → isDrv Γ σ' → isSb Γ σ' (K + 2) → FrP (fun b => (22 ≤ b ∧ b ≤ 26) ∨ inT b ∨ (374 ≤ b ∧ b ≤ 379)) σ σ' → Q none Γ σ') : Ct G M_Driver_addClause (d + 4) 0 0 [rf G 373, rf G (133 + 5 * n), .int (nI a), .int v, .int (nI c)] Γ σ Q := by
  obtain ⟨v0, ⟨v1, v2, v3, v4, v5, v6, v7, v8⟩, ⟨y1, w1⟩, ⟨y2, w2⟩, ⟨y3, w3⟩⟩ := id hD
  obtain ⟨t1, -, -, ⟨-, t4b⟩, -⟩ := id hT
  have hn : n < 48 := by omega
  have hN := hT.nd hn
  obtain ⟨n0, -, ⟨q1, -⟩, nt, -⟩ := id hN
  obtain ⟨k0, β0, hk0, hSub0⟩ := id hS
  have hq := (qK_nat c).1
  have hpl : (aPat T c).2.length ≤ 3 := by rw [aPat, tNK_o.2.2]; simp; omega
  have hpl1 : 1 ≤ (aPat T c).2.length := by rw [aPat, tNK_o.2.2]; simp
  have k65 : ∀ τ, isTree Γ τ (aPat T c).1 → isDrv Γ τ → isRow Γ τ 378 3 (aPat T c).2 → isSub Γ τ 22 k0 β0 → isSg Γ τ 27 pt cs → isSrc Γ τ 33 27 22 bd → FrP (fun b => (22 ≤ b ∧ b ≤ 26) ∨ inT b ∨ (374 ≤ b ∧ b ≤ 379)) σ τ → Wq G M_Driver_addClause (Em G (d + 4) 0 0 Q) 0 0 65 [some (rf G 373), some (rf G (133 + 5 * n)), some (.int (nI a)), some (.int v), some (.int (nI c)), some (.int (aFst T c)), none] [] [] Γ τ := by
    intro τ T1 D1 P1 hSub G1 Sr1 f0
    first | refine x_aload_n d_Driver_addClause_65 rfl rfl ?_ | refine x_aloadN_n d_Driver_addClause_65 rfl rfl ?_ | refine x_aloadE_n d_Driver_addClause_65 rfl rfl ?_ | refine x_aloadO_n d_Driver_addClause_65 rfl rfl ?_
    refine x_getR d_Driver_addClause_66 f_Driver_38 rfl (by exact D1.1) (D1.2.1.2.2.2.1) ?_
    refine x_callV0 d_Driver_addClause_69 k_Substitution_begin l_Driver_179 v_Substitution_begin rfl s_Substitution_begin (by exact hSub.1.1) RoomE.m (Nat.le_of_ble_eq_true rfl) (c_Substitution_begin hSub (by omega) (fun τ2 S2 f2 => ?_))
    have P2 := P1.fr f2 (by simp) (by simp)
    first | refine x_aload_n d_Driver_addClause_72 rfl rfl ?_ | refine x_aloadN_n d_Driver_addClause_72 rfl rfl ?_ | refine x_aloadE_n d_Driver_addClause_72 rfl rfl ?_ | refine x_aloadO_n d_Driver_addClause_72 rfl rfl ?_
    refine x_getR d_Driver_addClause_73 f_Driver_38 rfl (by exact D1.1) (by rw [(f2.fr 373 (by simp)).2.1]; exact D1.2.1.2.2.2.1) ?_
    refine x_iload_n d_Driver_addClause_76 rfl rfl ?_
    first | refine x_aload_n d_Driver_addClause_77 rfl rfl ?_ | refine x_aloadN_n d_Driver_addClause_77 rfl rfl ?_ | refine x_aloadE_n d_Driver_addClause_77 rfl rfl ?_ | refine x_aloadO_n d_Driver_addClause_77 rfl rfl ?_
    refine x_getR d_Driver_addClause_78 f_Driver_23 rfl (by exact D1.1) (by rw [(f2.fr 373 (by simp)).2.1]; exact D1.2.1.2.2.2.2.2.2.2) ?_
    refine x_iconst (v := 0) d_Driver_addClause_81 (by decide) ?_
    first | refine x_aload_n d_Driver_addClause_82 rfl rfl ?_ | refine x_aloadN_n d_Driver_addClause_82 rfl rfl ?_ | refine x_aloadE_n d_Driver_addClause_82 rfl rfl ?_ | refine x_aloadO_n d_Driver_addClause_82 rfl rfl ?_
    refine x_getR d_Driver_addClause_83 f_Driver_23 rfl (by exact D1.1) (by rw [(f2.fr 373 (by simp)).2.1]; exact D1.2.1.2.2.2.2.2.2.2) ?_
    refine x_callV0 d_Driver_addClause_86 k_Row_length l_Driver_56 v_Row_length rfl s_Row_length (by exact P1.1) RoomE.m (Nat.le_of_ble_eq_true rfl) (c_Row_length P2 ?_)
    refine x_callV4 d_Driver_addClause_89 k_Substitution_bind l_Driver_184 v_Substitution_bind rfl s_Substitution_bind (by exact hSub.1.1) RoomE.m (Nat.le_of_ble_eq_true rfl) (c_Substitution_bind (f := 0) (t := ((aPat T c).2.take 3).length) S2 P2 hv (fun τ3 S3 f3 => ?_))
    have D3 : τ3.2.1 373 0 = some 27 ∧ τ3.2.1 373 1 = some 33 ∧ τ3.2.1 373 2 = some 131 ∧ τ3.2.1 373 3 = some 22 ∧ τ3.2.1 373 4 = some 380 ∧ τ3.2.1 373 5 = some 374 ∧ τ3.2.1 373 6 = some 376 ∧ τ3.2.1 373 7 = some 378 := by
      rw [(f3 373 (by simp)).2.1, (f2.fr 373 (by simp)).2.1]; exact D1.2.1
    obtain ⟨-, -, ⟨z1, x1⟩, ⟨z2, x2⟩, -⟩ := id D1
    have W3 := (x2.fr f2 (by simp) (by simp)).Fr f3 (by simp) (by simp)
    have P3 := P2.Fr f3 (by simp) (by simp)
    first | refine x_aload_n d_Driver_addClause_92 rfl rfl ?_ | refine x_aloadN_n d_Driver_addClause_92 rfl rfl ?_ | refine x_aloadE_n d_Driver_addClause_92 rfl rfl ?_ | refine x_aloadO_n d_Driver_addClause_92 rfl rfl ?_
    refine x_getR d_Driver_addClause_93 f_Driver_20 rfl (by exact D1.1) (D3.2.2.2.2.2.2.1) ?_
    refine x_callV0 d_Driver_addClause_96 k_Row_clear l_Driver_170 v_Row_clear rfl s_Row_clear (by exact W3.1) RoomE.m (Nat.le_of_ble_eq_true rfl) (c_Row_clear W3 (fun τ4 W4 f4 => ?_))
    have D4 := D3
    rw [← f4.1] at D4
    have f14 : Fr [22, 23, 24, 25, 26, 376] τ τ4 := ((f2.fr.mono (by simp)).tr (f3.mono (by simp))).tr (f4.fr.mono (by simp))
    have T4 := T1.P (f14.P (T := fun b => (22 ≤ b ∧ b ≤ 26) ∨ b = 376) (by simp)) (fun b hb hc => by unfold inT at hb; omega)
    have N4 := (T4.nd hn).2.2.2.1
    rw [show ntm (tD (aPat T c).1 n) = ntm (tD T n) by rw [aPat, tNK_o.1]] at N4
    have S4 := S3.Fr f4.fr (by simp) (by simp) (by simp) (by simp) (by simp)
    have P4 := P3.fr f4 (by simp) (by simp)
    have B4 : bdOK Γ τ4 376 (upN (fun _ => none) v.toNatClampNeg (some (378, 0, ((aPat T c).2.take 3).length))) (fun _ => (aPat T c).2) := by
      intro v' rr ff tt h1 h2
      unfold upN at h2
      split at h2
      · cases h2
        exact ⟨by decide, by decide, by rw [List.length_take]; omega, 3, _, P4, by rw [List.take_of_length_le (show ((aPat T c).2.take 3).length ≤ ((aPat T c).2.take 3).length from Nat.le_refl _), List.drop_zero, List.take_of_length_le hpl]⟩
      · cases h2
    first | refine x_aload_n d_Driver_addClause_99 rfl rfl ?_ | refine x_aloadN_n d_Driver_addClause_99 rfl rfl ?_ | refine x_aloadE_n d_Driver_addClause_99 rfl rfl ?_ | refine x_aloadO_n d_Driver_addClause_99 rfl rfl ?_
    refine x_getR d_Driver_addClause_100 f_Driver_38 rfl (by exact D1.1) (D4.2.2.2.1) ?_
    first | refine x_aload_n d_Driver_addClause_103 rfl rfl ?_ | refine x_aloadN_n d_Driver_addClause_103 rfl rfl ?_ | refine x_aloadE_n d_Driver_addClause_103 rfl rfl ?_ | refine x_aloadO_n d_Driver_addClause_103 rfl rfl ?_
    refine x_getR d_Driver_addClause_104 f_Driver_78 rfl (by exact n0) ((T4.nd hn).2.2.1.1) ?_
    first | refine x_aload_n d_Driver_addClause_107 rfl rfl ?_ | refine x_aloadN_n d_Driver_addClause_107 rfl rfl ?_ | refine x_aloadE_n d_Driver_addClause_107 rfl rfl ?_ | refine x_aloadO_n d_Driver_addClause_107 rfl rfl ?_
    refine x_getR d_Driver_addClause_108 f_Driver_20 rfl (by exact D1.1) (D4.2.2.2.2.2.2.1) ?_
    refine x_callV2 d_Driver_addClause_111 k_Substitution_apply l_Driver_188 v_Substitution_apply rfl s_Substitution_apply (by exact hSub.1.1) RoomE.m (Nat.le_of_ble_eq_true rfl) (c_Substitution_apply S4 N4 W4 (by omega) (by omega) B4 (fun τ5 R5 f5 => ?_))
    have eR : [] ++ ((ntm (tD T n)).take 40).flatMap (sub1 (upN (fun _ => none) v.toNatClampNeg (some (378, 0, ((aPat T c).2.take 3).length))) (fun _ => (aPat T c).2)) = (aRep T n c v) := by
      rw [List.nil_append, aRep]
      congr 1
      funext s
      exact sbV_sub hv s
    rw [eR] at R5
    have D5 := D4
    rw [← f5.1] at D5
    have f15 : Fr [22, 23, 24, 25, 26, 376, 377] τ τ5 := (f14.mono (by simp)).tr (f5.fr.mono (by simp))
    have g15 : FrP inDr τ τ5 := f15.P (by simp [inDr])
    have Sr5 := src_Dr Sr1 g15
    have G5 := sg_Dr G1 g15
    have S5 : isSb Γ τ5 (K + 1) := ⟨k0 + 1, _, by omega, S4.Fr f5.fr (by simp) (by simp) (by simp) (by simp) (by simp)⟩
    have U5 := x1.Fr f15 (by simp) (by simp)
    have hrl : (aRep T n c v).length ≤ 120 ∧ (t40 T n).length ≤ (aRep T n c v).length := by
      have h1 := fm_le (f := sbV v (aPat T c).2) (k := 3) (l := t40 T n) (fun s => (sbV_len hpl1 hpl).2)
      have h2 := fm_ge (f := sbV v (aPat T c).2) (l := t40 T n) (fun s => (sbV_len hpl1 hpl).1)
      have h3 : (t40 T n).length ≤ 40 := by rw [t40, List.length_take]; omega
      exact ⟨by show (List.flatMap _ _).length ≤ 120; omega, h2⟩
    have e120 : (aRep T n c v).take 120 = (aRep T n c v) := List.take_of_length_le hrl.1
    have ha5 : a < ((aRep T n c v).take 120).length := by rw [e120]; omega
    first | refine x_aload_n d_Driver_addClause_114 rfl rfl ?_ | refine x_aloadN_n d_Driver_addClause_114 rfl rfl ?_ | refine x_aloadE_n d_Driver_addClause_114 rfl rfl ?_ | refine x_aloadO_n d_Driver_addClause_114 rfl rfl ?_
    refine x_getR d_Driver_addClause_115 f_Driver_30 rfl (by exact D1.1) (D5.2.1) ?_
    first | refine x_aload_n d_Driver_addClause_118 rfl rfl ?_ | refine x_aloadN_n d_Driver_addClause_118 rfl rfl ?_ | refine x_aloadE_n d_Driver_addClause_118 rfl rfl ?_ | refine x_aloadO_n d_Driver_addClause_118 rfl rfl ?_
    refine x_getR d_Driver_addClause_119 f_Driver_20 rfl (by exact D1.1) (D5.2.2.2.2.2.2.1) ?_
    refine x_iload_n d_Driver_addClause_122 rfl rfl ?_
    first | refine x_aload_n d_Driver_addClause_123 rfl rfl ?_ | refine x_aloadN_n d_Driver_addClause_123 rfl rfl ?_ | refine x_aloadE_n d_Driver_addClause_123 rfl rfl ?_ | refine x_aloadO_n d_Driver_addClause_123 rfl rfl ?_
    refine x_getR d_Driver_addClause_124 f_Driver_14 rfl (by exact D1.1) (D5.2.2.2.2.2.1) ?_
    refine x_callU3 d_Driver_addClause_127 k_Program_unfold l_Driver_158 sm_Program_unfold ⟨by decide, by decide⟩ (by decide +kernel) (Or.inr ⟨_, _, _, v_Program_unfold, (k_Program_unfold).1⟩) v_Program_unfold rfl s4_Program_unfold (by exact Sr5.1) RoomE.m (Nat.le_of_ble_eq_true rfl) (c_srcUnfold Sr5 G5 hOK S5 (by omega) R5 U5 (by omega) (by omega) (by omega) ha5 (fun τ6 S6 R6 f6 => ?_))
    rw [e120] at R6
    have D6 := D5
    rw [← (f6 373 (by simp)).2.1] at D6
    have f16 : Fr [22, 23, 24, 25, 26, 376, 377, 374, 375] τ τ6 := (f15.mono (by simp)).tr (f6.mono (by simp))
    have T5 := T1.P (f16.P (T := fun b => (22 ≤ b ∧ b ≤ 26) ∨ (374 ≤ b ∧ b ≤ 377)) (by simp)) (fun b hb hc => by unfold inT at hb; omega)
    first | refine x_aload_n d_Driver_addClause_130 rfl rfl ?_ | refine x_aloadN_n d_Driver_addClause_130 rfl rfl ?_ | refine x_aloadE_n d_Driver_addClause_130 rfl rfl ?_ | refine x_aloadO_n d_Driver_addClause_130 rfl rfl ?_
    refine x_getR d_Driver_addClause_131 f_Driver_34 rfl (by exact D1.1) (D6.2.2.1) ?_
    first | refine x_aload_n d_Driver_addClause_134 rfl rfl ?_ | refine x_aloadN_n d_Driver_addClause_134 rfl rfl ?_ | refine x_aloadE_n d_Driver_addClause_134 rfl rfl ?_ | refine x_aloadO_n d_Driver_addClause_134 rfl rfl ?_
    first | refine x_aload_n d_Driver_addClause_135 rfl rfl ?_ | refine x_aloadN_n d_Driver_addClause_135 rfl rfl ?_ | refine x_aloadE_n d_Driver_addClause_135 rfl rfl ?_ | refine x_aloadO_n d_Driver_addClause_135 rfl rfl ?_
    refine x_getR d_Driver_addClause_136 f_Driver_14 rfl (by exact D1.1) (D6.2.2.2.2.2.1) ?_
    refine x_iconst (v := 0) d_Driver_addClause_139 (by decide) ?_
    first | refine x_aload_n d_Driver_addClause_140 rfl rfl ?_ | refine x_aloadN_n d_Driver_addClause_140 rfl rfl ?_ | refine x_aloadE_n d_Driver_addClause_140 rfl rfl ?_ | refine x_aloadO_n d_Driver_addClause_140 rfl rfl ?_
    refine x_getR d_Driver_addClause_141 f_Driver_14 rfl (by exact D1.1) (D6.2.2.2.2.2.1) ?_
    refine x_callV0 d_Driver_addClause_144 k_Row_length l_Driver_56 v_Row_length rfl s_Row_length (by exact R6.1) RoomE.m (Nat.le_of_ble_eq_true rfl) (c_Row_length R6 ?_)
    refine x_callV4 d_Driver_addClause_147 k_Tree_add l_Driver_60 v_Tree_add rfl s_Tree_add (by exact t1) RoomE.m (Nat.le_of_ble_eq_true rfl) (c_Tree_add (f := 0) (ab := some n) T5 R6 (fun h => by unfold inN; have h7 : tN (aPat T c).1 < 48 := h; omega) (by omega) (lk48.s hn) (Nat.zero_le _) (Nat.le_refl _) (fun τ7 T6 f7 => ?_))
    have e9 : (((uL pt cs bd (aRep T n c v) a).take 40).take ((uL pt cs bd (aRep T n c v) a).take 40).length).drop 0 = (uL pt cs bd (aRep T n c v) a).take 40 := by rw [List.take_of_length_le (Nat.le_refl _)]; rfl
    rw [e9] at T6 ⊢
    have g7 : FrP (fun b => (22 ≤ b ∧ b ≤ 26) ∨ inT b ∨ (374 ≤ b ∧ b ≤ 379)) σ τ7 := (f0.tr (f16.P (by simp))).tr (f7.mono (fun b z => Or.inr (Or.inl z)))
    have S7 : isSb Γ τ7 (K + 2) := S6.P f7 (fun a h1 h2 h3 => by unfold inT at h3; omega)
    have D7 : isDrv Γ τ7 := by
      have D6' : isDrv Γ τ6 := ⟨D1.1, D6, ⟨_, R6⟩, ⟨_, R5.Fr f6 (by simp) (by simp)⟩, ⟨_, P1.Fr f16 (by simp) (by simp)⟩⟩
      exact D6'.T f7
    rcases hO154 : (tAdd (aPat T c).1 (some n) ((uL pt cs bd (aRep T n c v) a).take 40) (decide (40 < (uL pt cs bd (aRep T n c v) a).length))).2 with _ | k154
    · first | refine x_astore d_Driver_addClause_150 rfl ?_ | refine x_astoreN d_Driver_addClause_150 rfl ?_ | refine x_astoreE d_Driver_addClause_150 rfl ?_ | refine x_astoreO d_Driver_addClause_150 rfl ?_
      first | refine x_aload d_Driver_addClause_152 rfl ?_ | refine x_aloadN d_Driver_addClause_152 rfl ?_ | refine x_aloadE d_Driver_addClause_152 rfl ?_ | refine x_aloadO d_Driver_addClause_152 rfl ?_
      refine x_ifnullN (tgt := 171) d_Driver_addClause_154 (by decide) ?_
      exact x_return d_Driver_addClause_171 rfl (hQ τ7 (by rw [tCls, tSet, hO154]; exact T6) D7 S7 g7)
    · have hk48 : k154 < 48 := by
        unfold tAdd at hO154
        split at hO154
        · cases hO154
        · next hc => cases hO154; omega
      first | refine x_astore d_Driver_addClause_150 rfl ?_ | refine x_astoreN d_Driver_addClause_150 rfl ?_ | refine x_astoreE d_Driver_addClause_150 rfl ?_ | refine x_astoreO d_Driver_addClause_150 rfl ?_
      first | refine x_aload d_Driver_addClause_152 rfl ?_ | refine x_aloadN d_Driver_addClause_152 rfl ?_ | refine x_aloadE d_Driver_addClause_152 rfl ?_ | refine x_aloadO d_Driver_addClause_152 rfl ?_
      refine x_ifnull d_Driver_addClause_154 ?_
      first | refine x_aload d_Driver_addClause_157 rfl ?_ | refine x_aloadN d_Driver_addClause_157 rfl ?_ | refine x_aloadE d_Driver_addClause_157 rfl ?_ | refine x_aloadO d_Driver_addClause_157 rfl ?_
      refine x_iload d_Driver_addClause_159 rfl ?_
      refine x_putI d_Driver_addClause_161 (w_Driver_m_192 _) rfl (by first | rfl | decide) (by first | rfl | decide) (by exact (T6.nd hk48).1) ?_
      first | refine x_aload d_Driver_addClause_164 rfl ?_ | refine x_aloadN d_Driver_addClause_164 rfl ?_ | refine x_aloadE d_Driver_addClause_164 rfl ?_ | refine x_aloadO d_Driver_addClause_164 rfl ?_
      refine x_iload d_Driver_addClause_166 rfl ?_
      refine x_putI d_Driver_addClause_168 (w_Driver_m_195 _) rfl (by first | rfl | decide) (by first | rfl | decide) (by exact (T6.nd hk48).1) ?_
      exact x_return d_Driver_addClause_171 rfl (by
        have N9 := ((T6.nd hk48).wI (j := 11) (v := nI c) rfl).wI (j := 12) (v := aFst T c) rfl
        have f9 : FrP (inN k154) τ7 (wI (wI τ7 (133 + 5 * k154) 11 (nI c)) (133 + 5 * k154) 12 (aFst T c)) := (FrP.rf.wI ⟨by omega, by omega⟩).wI ⟨by omega, by omega⟩
        have T9 := T6.up hk48 f9 N9
        have f9T := f9.T hk48
        exact hQ _ (by rw [tCls, tSet, hO154]; exact T9) (D7.T f9T) (S7.P f9T (fun a h1 h2 h3 => by unfold inT at h3; omega)) (g7.tr (f9T.mono (fun b z => Or.inr (Or.inl z)))))
  have lp : ∀ (k : Nat) (t : Nat) (T0 : TS) (pl : List Int32) (w : Int32) (τ : Mem), t + k = qK c → tNK k T0 pl = tNK (qK c) T [100 + nI c] → pl.length = 1 + t → w = (if t = 0 then -1 else pl.getD 1 (-1)) → isTree Γ τ T0 → isDrv Γ τ → isRow Γ τ 378 3 pl → isSub Γ τ 22 k0 β0 → isSg Γ τ 27 pt cs → isSrc Γ τ 33 27 22 bd → FrP (fun b => (22 ≤ b ∧ b ≤ 26) ∨ inT b ∨ (374 ≤ b ∧ b ≤ 379)) σ τ → Wq G M_Driver_addClause (Em G (d + 4) 0 0 Q) 0 0 25 [some (rf G 373), some (rf G (133 + 5 * n)), some (.int (nI a)), some (.int v), some (.int (nI c)), some (.int w), some (.int (nI t))] [] [] Γ τ := by
    intro k
    induction k with
    | zero =>
      intro t T0 pl w τ h1 h2 hpl9 h3 T1 D1 P1 S1 G1 Sr1 f0
      refine x_iload d_Driver_addClause_25 rfl ?_
      refine x_iload d_Driver_addClause_27 rfl ?_
      refine x_callSN1 d_Driver_addClause_29 k_SD_partsOfConstructor ln_Driver_173 z_SD_partsOfConstructor RoomE.m (Nat.le_of_ble_eq_true rfl) (c_SD_partsOfConstructor ?_)
      rw [(qK_nat c).2]
      refine x_icmp_ge (tgt := 65) d_Driver_addClause_32 (by decide) (fun c32 => ?_) (fun c32 => ?_)
      · have h2a : aPat T c = (T0, pl) := by rw [aPat, ← h2]; rfl
        have ht : t = qK c := by omega
        have hw : aFst T c = w := by rw [aFst, h2a, ← ht]; exact h3.symm
        have kk := k65 τ (by rw [h2a]; exact T1) D1 (by rw [h2a]; exact P1) S1 G1 Sr1 f0
        rw [hw] at kk
        exact Wq.fg kk ⟨rfl, rfl, rfl, rfl, rfl, rfl, trivial⟩
      · exact absurd (nI_le (by omega) (by omega)) c32
    | succ k ih =>
      intro t T0 pl w τ h1 h2 hpl9 h3 T1 D1 P1 S1 G1 Sr1 f0
      refine x_iload d_Driver_addClause_25 rfl ?_
      refine x_iload d_Driver_addClause_27 rfl ?_
      refine x_callSN1 d_Driver_addClause_29 k_SD_partsOfConstructor ln_Driver_173 z_SD_partsOfConstructor RoomE.m (Nat.le_of_ble_eq_true rfl) (c_SD_partsOfConstructor ?_)
      rw [(qK_nat c).2]
      refine x_icmp_ge (tgt := 65) d_Driver_addClause_32 (by decide) (fun c32 => ?_) (fun c32 => ?_)
      · rw [nI_leI (by omega) (by omega)] at c32; omega
      · first | refine x_aload_n d_Driver_addClause_35 rfl rfl ?_ | refine x_aloadN_n d_Driver_addClause_35 rfl rfl ?_ | refine x_aloadE_n d_Driver_addClause_35 rfl rfl ?_ | refine x_aloadO_n d_Driver_addClause_35 rfl rfl ?_
        refine x_getR d_Driver_addClause_36 f_Driver_23 rfl (by exact D1.1) (D1.2.1.2.2.2.2.2.2.2) ?_
        first | refine x_aload_n d_Driver_addClause_39 rfl rfl ?_ | refine x_aloadN_n d_Driver_addClause_39 rfl rfl ?_ | refine x_aloadE_n d_Driver_addClause_39 rfl rfl ?_ | refine x_aloadO_n d_Driver_addClause_39 rfl rfl ?_
        refine x_getR d_Driver_addClause_40 f_Driver_34 rfl (by exact D1.1) (D1.2.1.2.2.1) ?_
        refine x_callV0 d_Driver_addClause_43 k_Tree_newVariable l_Driver_176 v_Tree_newVariable rfl s_Tree_newVariable (by exact T1.1) RoomE.m (Nat.le_of_ble_eq_true rfl) (c_Tree_newVariable T1 (fun τ2 T2 f2 => ?_))
        refine x_callV1 d_Driver_addClause_46 k_Row_add l_Driver_171 v_Row_add rfl s_Row_add (by exact P1.1) RoomE.m (Nat.le_of_ble_eq_true rfl) (c_Row_add (P1.Fr f2 (by simp) (by simp)) (fun τ3 P3 f3 => ?_))
        first | refine x_aload_n d_Driver_addClause_49 rfl rfl ?_ | refine x_aloadN_n d_Driver_addClause_49 rfl rfl ?_ | refine x_aloadE_n d_Driver_addClause_49 rfl rfl ?_ | refine x_aloadO_n d_Driver_addClause_49 rfl rfl ?_
        refine x_getR d_Driver_addClause_50 f_Driver_23 rfl (by exact D1.1) (by rw [f3.1, (f2 373 (by simp)).2.1]; exact D1.2.1.2.2.2.2.2.2.2) ?_
        refine x_iconst (v := 1) d_Driver_addClause_53 (by decide) ?_
        refine x_callV1 d_Driver_addClause_54 k_Row_at l_Driver_81 v_Row_at rfl s_Row_at (by exact P1.1) RoomE.m (Nat.le_of_ble_eq_true rfl) (c_Row_at (i := nI 1) P3 ?_)
        rw [atI_nI (by omega), show ((pl ++ [(tNew T0).2]).take 3) = pl ++ [(tNew T0).2] from List.take_of_length_le (by simp; omega)]
        refine x_istore d_Driver_addClause_57 rfl ?_
        refine x_iinc (v := nI (t + 1)) d_Driver_addClause_59 rfl (nI_1 t) rfl ?_
        refine x_goto (tgt := 25) d_Driver_addClause_62 (by decide) ?_
        have f23 : Fr [131, 378, 379] τ τ3 := (f2.mono (by simp)).tr (f3.fr.mono (by simp))
        have g23 : FrP inDr τ τ3 := f23.P (by simp [inDr])
        have T3 := T2.P (f3.P (T := fun b => b = 378 ∨ b = 379) (by simp)) (fun b hb hc => by unfold inT at hb; omega)
        have D3 : isDrv Γ τ3 := by
          obtain ⟨e1, e2, ⟨z1, e3⟩, ⟨z2, e4⟩, -⟩ := id D1
          exact ⟨e1, by rw [(f23 373 (by simp)).2.1]; exact e2, ⟨z1, e3.Fr f23 (by simp) (by simp)⟩, ⟨z2, e4.Fr f23 (by simp) (by simp)⟩, ⟨_, P3⟩⟩
        exact Wq.fg (ih (t + 1) _ _ _ τ3 (by omega) (by rw [tNK] at h2; exact h2) (by simp; omega) (by simp) T3 D3 P3 (S1.Fr f23 (by simp) (by simp) (by simp) (by simp) (by simp)) (sg_Dr G1 g23) (src_Dr Sr1 g23) (f0.tr (f23.P (by simp [inT])))) ⟨rfl, rfl, rfl, rfl, rfl, rfl, rfl, trivial⟩
  refine Ct.of (lv := [some (rf G 373), some (rf G (133 + 5 * n)), some (.int (nI a)), some (.int v), some (.int (nI c)), none, none]) (ll := []) rfl rfl (EN.cat (n := 2) ⟨rfl, rfl, rfl, rfl, rfl, trivial⟩ (Nat.le_of_ble_eq_true rfl)) ?_
  refine x_iconst (v := -1) d_Driver_addClause_0 (by decide) ?_
  refine x_istore d_Driver_addClause_1 rfl ?_
  first | refine x_aload_n d_Driver_addClause_3 rfl rfl ?_ | refine x_aloadN_n d_Driver_addClause_3 rfl rfl ?_ | refine x_aloadE_n d_Driver_addClause_3 rfl rfl ?_ | refine x_aloadO_n d_Driver_addClause_3 rfl rfl ?_
  refine x_getR d_Driver_addClause_4 f_Driver_23 rfl (by assumption) (by assumption) ?_
  refine x_callV0 d_Driver_addClause_7 k_Row_clear l_Driver_170 v_Row_clear rfl s_Row_clear (by exact w3.1) RoomE.m (Nat.le_of_ble_eq_true rfl) (c_Row_clear w3 (fun τ1 R1 f1 => ?_))
  first | refine x_aload_n d_Driver_addClause_10 rfl rfl ?_ | refine x_aloadN_n d_Driver_addClause_10 rfl rfl ?_ | refine x_aloadE_n d_Driver_addClause_10 rfl rfl ?_ | refine x_aloadO_n d_Driver_addClause_10 rfl rfl ?_
  refine x_getR d_Driver_addClause_11 f_Driver_23 rfl (by assumption) (by rw [f1.1]; exact v8) ?_
  refine x_bipush (v := 100) d_Driver_addClause_14 (by decide) ?_
  refine x_iload d_Driver_addClause_16 rfl ?_
  refine x_iadd d_Driver_addClause_18 ?_
  refine x_callV1 d_Driver_addClause_19 k_Row_add l_Driver_171 v_Row_add rfl s_Row_add (by exact w3.1) RoomE.m (Nat.le_of_ble_eq_true rfl) (c_Row_add R1 (fun τ2 R2 f2 => ?_))
  refine x_iconst (v := 0) d_Driver_addClause_22 (by decide) ?_
  refine x_istore d_Driver_addClause_23 rfl ?_
  have f12 : Fr [378, 379] σ τ2 := (f1.fr.mono (by simp)).tr (f2.fr.mono (by simp))
  have g12 : FrP inDr σ τ2 := f12.P (by simp [inDr])
  have D2 : isDrv Γ τ2 := ⟨v0, by rw [(f12 373 (by simp)).2.1]; exact hD.2.1, ⟨y1, w1.Fr f12 (by simp) (by simp)⟩, ⟨y2, w2.Fr f12 (by simp) (by simp)⟩, ⟨_, R2⟩⟩
  exact Wq.fg (lp (qK c) 0 T [100 + nI c] (-1) τ2 (by omega) rfl rfl rfl (hT.P (f12.P (T := fun b => b = 378 ∨ b = 379) (by simp)) (fun b hb hc => by unfold inT at hb; omega)) D2 R2 (hSub0.Fr f12 (by simp) (by simp) (by simp) (by simp) (by simp)) (sg_Dr hG g12) (src_Dr hSrc g12) (f12.P (by simp))) ⟨rfl, rfl, rfl, rfl, rfl, rfl, by rw [nI_0], trivial⟩
