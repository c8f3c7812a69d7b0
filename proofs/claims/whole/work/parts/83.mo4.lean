/-! SuperDriverModel: its state beside the class's; type, wipe, steps, result -/
theorem kl_Mo : gd (.constantLong "SuperDriverModel" 130 (255 : Int64)) := ⟨tb5_in (i := 179) rfl, rfl⟩
theorem kl_Law : gd (.constantLong "SuperDriverLaw" 38 (4294967295 : Int64)) := ⟨tb6_in (i := 150) rfl, rfl⟩
theorem x_ldc2 {G : Ctx} {M : Mth} {E : Ev} {bc bs pc idx : Nat} {lv : List (Option Value)} {ll : List (Nat × Int64)} {st : List Value} {Γ : List Sh} {σ : Mem} {v : Int64} (hd : decode (mcd M) pc = .ok (.ldc2_w idx, 3)) (hl : gd (.constantLong (my M).cls idx v)) (kk : Wq G M E bc bs (pc + 3) lv ll (.long v :: st) Γ σ) : Wq G M E bc bs pc lv ll st Γ σ :=
  fun p e s m args below meth c C H locs cells slots ls hV hS h1 h2 hl' => lv_ldc2 C.exec C.code C.own (C.wd hl.1 hl.2) hd (kk p e s m args below meth c C H locs cells slots ls hV hS h1 h2 hl')
theorem ltr_eq (v : Int64) (s : Int32) (n : Nat) (hn : n < 57) (h1 : (s.toInt64 &&& 63).toBitVec = BitVec.ofNat 64 n) (h2 : (s.toInt64.toUInt64 &&& Int64.toUInt64 63) = UInt64.ofNat n) :
  ((v >>> (s.toInt64 &&& 63)) &&& 255).toInt32 = ((v.toUInt64 >>> (s.toInt64.toUInt64 &&& Int64.toUInt64 63)).toInt64).toInt32 &&& 255 := by
  rw [h2]
  apply Int32.toBitVec_inj.mp
  have e1 : (v >>> (s.toInt64 &&& 63)).toBitVec = v.toBitVec.sshiftRight n := by
    rw [Int64.toBitVec_shiftRight, h1]
    unfold BitVec.sshiftRight'
    congr 1
    have : (BitVec.ofNat 64 n).smod 64#64 = BitVec.ofNat 64 n := by
      apply BitVec.eq_of_toInt_eq
      rw [BitVec.toInt_smod]
      have h : (BitVec.ofNat 64 n).toInt = n := by
        have ht : (BitVec.ofNat 64 n).toNat = n := by rw [BitVec.toNat_ofNat]; omega
        rw [BitVec.toInt_eq_toNat_of_lt (by rw [ht]; omega), ht]
      rw [h]
      show (n:Int).fmod 64 = n
      rw [Int.fmod_eq_emod_of_nonneg _ (by omega)]
      omega
    show ((BitVec.ofNat 64 n).smod 64).toNat = n
    rw [show ((64 : BitVec 64)) = 64#64 from rfl, this, BitVec.toNat_ofNat]
    omega
  have e2 : (v.toUInt64 >>> UInt64.ofNat n).toBitVec = v.toBitVec >>> n := by
    rw [UInt64.toBitVec_shiftRight]
    apply BitVec.eq_of_toNat_eq
    simp
    congr 1
    omega
  rw [Int32.toBitVec_and]
  show (((v >>> (s.toInt64 &&& 63)) &&& 255).toBitVec).signExtend 32 = ((v.toUInt64 >>> UInt64.ofNat n).toBitVec).signExtend 32 &&& (255 : Int32).toBitVec
  rw [Int64.toBitVec_and, e1, e2]
  apply BitVec.eq_of_getLsbD_eq
  intro i hi
  have h255a : ∀ i, (255 : Int64).toBitVec.getLsbD i = decide (i < 8) := by
    intro i
    by_cases h : i < 64
    · revert i; decide
    · rw [BitVec.getLsbD_of_ge _ _ (by omega), decide_eq_false (by omega)]
  have h255b : ∀ i, (255 : Int32).toBitVec.getLsbD i = decide (i < 8) := by
    intro i
    by_cases h : i < 32
    · revert i; decide
    · rw [BitVec.getLsbD_of_ge _ _ (by omega), decide_eq_false (by omega)]
  rw [BitVec.getLsbD_and, BitVec.getLsbD_signExtend, BitVec.getLsbD_signExtend, BitVec.getLsbD_and, h255a, h255b, BitVec.getLsbD_sshiftRight, BitVec.getLsbD_ushiftRight]
  by_cases h8 : i < 8
  · simp [h8, hi, show i < 64 by omega, show n + i < 64 by omega]
  · simp [h8]
    intro a b
    omega
theorem ltr_m (v : Int64) {k : Nat} (hk : k < 8) : ((v >>> ((nI (8 * k)).toInt64 &&& 63)) &&& 255).toInt32 = ltr v (nI (8 * k)) := by
  refine ltr_eq v (nI (8 * k)) (8 * k) (by omega) ?_ ?_
  · match k, hk with
    | 0, _ => decide
    | 1, _ => decide
    | 2, _ => decide
    | 3, _ => decide
    | 4, _ => decide
    | 5, _ => decide
    | 6, _ => decide
    | 7, _ => decide
  · match k, hk with
    | 0, _ => decide
    | 1, _ => decide
    | 2, _ => decide
    | 3, _ => decide
    | 4, _ => decide
    | 5, _ => decide
    | 6, _ => decide
    | 7, _ => decide
def FrM (σ σ' : Mem) : Prop := σ'.2 = σ.2 ∧ ∀ a, a < 391 ∨ 425 < a → σ'.1 a = σ.1 a
theorem FrM.rf {σ : Mem} : FrM σ σ := ⟨rfl, fun _ _ => rfl⟩
theorem FrM.tr {σ τ υ : Mem} (h : FrM σ τ) (h2 : FrM τ υ) : FrM σ υ := ⟨h2.1.trans h.1, fun a ha => (h2.2 a ha).trans (h.2 a ha)⟩
theorem FrI.M {S : List Nat} {σ σ' : Mem} (h : FrI S σ σ') (hs : ∀ a ∈ S, 391 ≤ a ∧ a ≤ 425) : FrM σ σ' := ⟨h.1, fun a ha => h.2 a (fun z => by have := hs a z; omega)⟩
theorem FrM.w {σ σ' : Mem} {a j : Nat} {v : Int32} (h : FrM σ σ') (h1 : 391 ≤ a) (h2 : a ≤ 425) : FrM σ (wI σ' a j v) := ⟨h.1, fun b hb => by rw [wI_o (by omega)]; exact h.2 b hb⟩
theorem FrM.P {σ σ' : Mem} (h : FrM σ σ') : FrP (fun a => 391 ≤ a ∧ a ≤ 425) σ σ' := fun a ha => ⟨h.2 a (by omega), by rw [h.1], by rw [h.1]⟩
theorem MoS.m {Γ : List Sh} {σ σ' : Mem} (h : MoS Γ σ) (hf : FrM σ σ') : MoS Γ σ' := ⟨h.1, h.2.1, fun j k e => by rw [hf.1]; exact h.2.2 j k e⟩
/-- the bodies as the reference numbers them -/
def mb (X : CS) (f c : Nat) : List Int32 := if kP X (200 + f) = 0 then [] else if kC X (200 + f) = true then (if c < 6 then kB X (6 * f + c) else []) else (if c = 6 then kB X (6 * f) else [])
def mTx (σ : Mem) (X : CS) : Prop := σ.1 391 1 = nI (kT X).length ∧ seg σ 392 0 (kT X)
def mFn (σ : Mem) (X : CS) : Prop := ∀ f, f < 8 → σ.1 393 f = kP X (200 + f) ∧ (kP X (200 + f) ≠ 0 → σ.1 394 f = bI (kC X (200 + f)))
def mBd (σ : Mem) (X : CS) : Prop := ∀ f c, f < 8 → c < 7 → σ.1 396 (7 * f + c) = nI (mb X f c).length ∧ seg σ 395 (24 * (7 * f + c)) (mb X f c)
def mGl (σ : Mem) (X : CS) : Prop := σ.1 391 7 = nI (kG X).length ∧ seg σ 397 0 (kG X)
def mIn (σ : Mem) (X : CS) : Prop := ∀ v, v < 8 → σ.1 399 v = nI (kI X v).length ∧ seg σ 398 (24 * v) (kI X v)
def mRn (σ : Mem) (X : CS) : Prop := σ.1 391 43 = kE X ∧ σ.1 391 44 = nI (kM X) ∧ (kE X = 0 → σ.1 391 45 = nI (kY X).length ∧ ∀ i, i < (kY X).length → σ.1 425 i = (kY X).getD i (-1) - 100)
def isMC (σ : Mem) (X : CS) : Prop := mTx σ X ∧ mFn σ X ∧ mBd σ X ∧ mGl σ X ∧ mIn σ X ∧ mRn σ X
/-- the class's state by itself -/
def kA (k : Nat) : Prop := 100 ≤ k ∧ k < 106
def csW (X : CS) : Prop := (al tA (kT X) ∧ (kT X).length ≤ 24) ∧ SW (kP X) (kC X) ∧ BdW (kP X) (kC X) (kB X) ∧ ((kG X).length ≤ 24 ∧ (kG X ≠ [] → tmq (nP (sgP (kP X))) (gA (kP X) 8) (kG X))) ∧ (∀ v, v < 8 → (kI X v).length ≤ 24 ∧ (kI X v ≠ [] → tmq (nP (sgP (kP X))) kA (kI X v))) ∧ (kE X = 0 → al kA (kY X) ∧ (kY X).length ≤ 200)
def trU (σ σ' : Mem) : Prop := (∀ a, 400 ≤ a → a ≤ 414 → σ'.1 a = σ.1 a) ∧ σ'.1 391 11 = σ.1 391 11 ∧ σ'.1 391 13 = σ.1 391 13
theorem isMC.cg {σ τ : Mem} {X : CS} (h : isMC σ X) (h8 : ∀ a, 392 ≤ a → a ≤ 399 → τ.1 a = σ.1 a) (h4 : τ.1 425 = σ.1 425) (h1 : τ.1 391 1 = σ.1 391 1) (h7 : τ.1 391 7 = σ.1 391 7) (h43 : τ.1 391 43 = σ.1 391 43) (h44 : τ.1 391 44 = σ.1 391 44) (h45 : τ.1 391 45 = σ.1 391 45) : isMC τ X := by
  obtain ⟨a1, a2, a3, a4, a5, a6⟩ := h
  refine ⟨⟨by rw [h1]; exact a1.1, fun i hi => by rw [h8 392 (by omega) (by omega)]; exact a1.2 i hi⟩, fun f hf => ?_, fun f c hf hc => ?_, ⟨by rw [h7]; exact a4.1, fun i hi => by rw [h8 397 (by omega) (by omega)]; exact a4.2 i hi⟩, fun v hv => ?_, by rw [h43]; exact a6.1, by rw [h44]; exact a6.2.1, fun z => ?_⟩
  · rw [h8 393 (by omega) (by omega), h8 394 (by omega) (by omega)]; exact a2 f hf
  · rw [h8 396 (by omega) (by omega)]; exact ⟨(a3 f c hf hc).1, fun i hi => by rw [h8 395 (by omega) (by omega)]; exact (a3 f c hf hc).2 i hi⟩
  · rw [h8 399 (by omega) (by omega)]; exact ⟨(a5 v hv).1, fun i hi => by rw [h8 398 (by omega) (by omega)]; exact (a5 v hv).2 i hi⟩
  · rw [h45, h4]; exact a6.2.2 z
theorem isMC.thr {σ : Mem} {X : CS} {t : Int32} (h : isMC σ X) : isMC (wI σ 391 0 t) X := h.cg (fun a h1 h2 => wI_o (by omega)) (wI_o (by decide)) (wI_j (by decide)) (wI_j (by decide)) (wI_j (by decide)) (wI_j (by decide)) (wI_j (by decide))
theorem trU.thr {σ : Mem} {j : Nat} {t : Int32} (h1 : j ≠ 11) (h2 : j ≠ 13) : trU σ (wI σ 391 j t) := ⟨fun a h1 h2 => wI_o (by omega), wI_j (fun z => h1 z.symm), wI_j (fun z => h2 z.symm)⟩
theorem trU.tr {σ τ υ : Mem} (h : trU σ τ) (h2 : trU τ υ) : trU σ υ := ⟨fun a x y => (h2.1 a x y).trans (h.1 a x y), h2.2.1.trans h.2.1, h2.2.2.trans h.2.2⟩
theorem trU.of {S : List Nat} {σ σ' : Mem} (h : FrI S σ σ') (hs : ∀ a ∈ S, a ≠ 391 ∧ (a < 400 ∨ 414 < a)) : trU σ σ' := ⟨fun a h1 h2 => h.2 a (fun z => by have := hs a z; omega), by rw [h.2 391 (fun z => (hs _ z).1 rfl)], by rw [h.2 391 (fun z => (hs _ z).1 rfl)]⟩
set_option maxRecDepth 10000 in
set_option maxHeartbeats 1000000 in
theorem c_Mo_wipe {G : Ctx} {d : Nat} {Γ : List Sh} {σ : Mem} {Q : Option Value → List Sh → Mem → Prop} {X : CS} (hM : MoS Γ σ) (hX : isMC σ X) (hQ : ∀ σ', isMC σ' ([], X.2) → trU σ σ' → σ'.1 391 0 = 0 → FrM σ σ' → Q none Γ σ') : Ct G M_Mo_wipe d 0 0 [rf G 391] Γ σ Q := by
  refine Ct.of (lv := [some (rf G 391)]) (ll := []) rfl rfl (EN.cat (n := 0) ⟨rfl, trivial⟩ (Nat.le_of_ble_eq_true rfl)) ?_
  first | refine x_aload_n d_Mo_wipe_0 rfl rfl ?_ | refine x_aloadN_n d_Mo_wipe_0 rfl rfl ?_ | refine x_aloadE_n d_Mo_wipe_0 rfl rfl ?_ | refine x_aloadO_n d_Mo_wipe_0 rfl rfl ?_
  refine x_iconst (v := 0) d_Mo_wipe_1 (by decide) ?_
  refine x_putI d_Mo_wipe_2 (w_Mo_m_117 _) rfl (by first | rfl | decide) (by first | rfl | decide) (by first | exact hM.1 | exact hM.s rfl | assumption) ?_
  first | refine x_aload_n d_Mo_wipe_5 rfl rfl ?_ | refine x_aloadN_n d_Mo_wipe_5 rfl rfl ?_ | refine x_aloadE_n d_Mo_wipe_5 rfl rfl ?_ | refine x_aloadO_n d_Mo_wipe_5 rfl rfl ?_
  refine x_iconst (v := 0) d_Mo_wipe_6 (by decide) ?_
  refine x_putI d_Mo_wipe_7 (w_Mo_m_127 _) rfl (by first | rfl | decide) (by first | rfl | decide) (by first | exact hM.1 | exact hM.s rfl | assumption) ?_
  exact x_return d_Mo_wipe_10 rfl (hQ _ (by
  have h := hX.thr (t := 0)
  refine ⟨⟨wI_s, seg.nil⟩, h.2.1, h.2.2.1, h.2.2.2.1, h.2.2.2.2.1, h.2.2.2.2.2⟩) ((trU.thr (by decide) (by decide)).tr (trU.thr (by decide) (by decide))) (by rw [wI_j (by decide), wI_s]) ((FrM.rf.w (by decide) (by decide)).w (by decide) (by decide)))
set_option maxRecDepth 10000 in
set_option maxHeartbeats 1000000 in
theorem c_Mo_steps {G : Ctx} {d : Nat} {Γ : List Sh} {σ : Mem} {Q : Option Value → List Sh → Mem → Prop} {X : CS} (hM : MoS Γ σ) (hX : isMC σ X) (hQ : ∀ σ', isMC σ' X → trU σ σ' → FrM σ σ' → Q (some (.int (nI (kM X)))) Γ σ') : Ct G M_Mo_steps d 0 0 [rf G 391] Γ σ Q := by
  refine Ct.of (lv := [some (rf G 391)]) (ll := []) rfl rfl (EN.cat (n := 0) ⟨rfl, trivial⟩ (Nat.le_of_ble_eq_true rfl)) ?_
  first | refine x_aload_n d_Mo_steps_0 rfl rfl ?_ | refine x_aloadN_n d_Mo_steps_0 rfl rfl ?_ | refine x_aloadE_n d_Mo_steps_0 rfl rfl ?_ | refine x_aloadO_n d_Mo_steps_0 rfl rfl ?_
  refine x_iconst (v := 0) d_Mo_steps_1 (by decide) ?_
  refine x_putI d_Mo_steps_2 (w_Mo_m_117 _) rfl (by first | rfl | decide) (by first | rfl | decide) (by first | exact hM.1 | exact hM.s rfl | assumption) ?_
  first | refine x_aload_n d_Mo_steps_5 rfl rfl ?_ | refine x_aloadN_n d_Mo_steps_5 rfl rfl ?_ | refine x_aloadE_n d_Mo_steps_5 rfl rfl ?_ | refine x_aloadO_n d_Mo_steps_5 rfl rfl ?_
  refine x_getI d_Mo_steps_6 f_Mo_142 rfl (by first | exact hM.1 | exact hM.s rfl | assumption) ?_
  rw [wI_j (by decide), hX.2.2.2.2.2.2.1]
  exact x_ireturn d_Mo_steps_9 rfl (by first | rfl | decide) (hQ _ hX.thr (trU.thr (by decide) (by decide)) (FrM.rf.w (by decide) (by decide)))
theorem atI_neg {zs : List Int32} {i : Int32} (h : i < 0) : atI zs i = -1 := by unfold atI; rw [if_pos h]
theorem atI_n {zs : List Int32} {k : Nat} (h : k < 2 ^ 31) : atI zs (nI k) = zs.getD k (-1) := by
  unfold atI
  rw [if_neg (nI_pos h), nI_clamp h]
theorem getD_ge {zs : List Int32} {k : Nat} (h : zs.length ≤ k) : zs.getD k (-1) = -1 := by
  rw [List.getD_eq_getElem?_getD, List.getElem?_eq_none h]; rfl
theorem m1_of {i : Int32} (h1 : ¬ i < -1) (h2 : i < 0) : i = -1 := by
  apply Int32.toInt_inj.mp
  have a := Int32.not_lt.mp h1
  rw [Int32.le_iff_toInt_le] at a
  have b := Int32.lt_iff_toInt_lt.mp h2
  have q0 : (0 : Int32).toInt = 0 := by decide
  have q1 : (-1 : Int32).toInt = -1 := by decide
  omega
theorem lt_m1 {i : Int32} (h : i < -1) : i < 0 ∧ i ≠ -1 := by
  have b := Int32.lt_iff_toInt_lt.mp h
  have q0 : (0 : Int32).toInt = 0 := by decide
  have q1 : (-1 : Int32).toInt = -1 := by decide
  exact ⟨Int32.lt_iff_toInt_lt.mpr (by omega), fun z => by rw [z] at b; omega⟩
theorem nn_m1 {i : Int32} (h : ¬ i < 0) : i ≠ -1 := fun z => h (by rw [z]; decide)
theorem nI_nm1 {k : Nat} (h : k < 2 ^ 31) : nI k ≠ -1 := nn_m1 (nI_pos h)
set_option maxRecDepth 10000 in
set_option maxHeartbeats 1000000 in
theorem c_Mo_result {G : Ctx} {d : Nat} {Γ : List Sh} {σ : Mem} {Q : Option Value → List Sh → Mem → Prop} {X : CS} {i : Int32} (hM : MoS Γ σ) (hX : isMC σ X) (hW : kE X = 0 → al kA (kY X) ∧ (kY X).length ≤ 200) (hQ : ∀ σ', isMC σ' X → trU σ σ' → FrM σ σ' → Q (some (.int (cAt (kY X) (kE X) i))) Γ σ') : Ct G M_Mo_result d 0 0 [rf G 391, .int i] Γ σ Q := by
  refine Ct.of (lv := [some (rf G 391), some (.int i)]) (ll := []) rfl rfl (EN.cat (n := 0) ⟨rfl, rfl, trivial⟩ (Nat.le_of_ble_eq_true rfl)) ?_
  first | refine x_aload_n d_Mo_result_0 rfl rfl ?_ | refine x_aloadN_n d_Mo_result_0 rfl rfl ?_ | refine x_aloadE_n d_Mo_result_0 rfl rfl ?_ | refine x_aloadO_n d_Mo_result_0 rfl rfl ?_
  refine x_iconst (v := 0) d_Mo_result_1 (by decide) ?_
  refine x_putI d_Mo_result_2 (w_Mo_m_117 _) rfl (by first | rfl | decide) (by first | rfl | decide) (by first | exact hM.1 | exact hM.s rfl | assumption) ?_
  first | refine x_aload_n d_Mo_result_5 rfl rfl ?_ | refine x_aloadN_n d_Mo_result_5 rfl rfl ?_ | refine x_aloadE_n d_Mo_result_5 rfl rfl ?_ | refine x_aloadO_n d_Mo_result_5 rfl rfl ?_
  refine x_getI d_Mo_result_6 f_Mo_110 rfl (by first | exact hM.1 | exact hM.s rfl | assumption) ?_
  rw [wI_j (by decide), hX.2.2.2.2.2.1]
  refine x_if_ne (tgt := 25) d_Mo_result_9 (by decide) (fun c9 => ?_) (fun c9 => ?_)
  · refine x_iconst (v := -1) d_Mo_result_25 (by decide) ?_
    exact x_ireturn d_Mo_result_26 rfl (by first | rfl | decide) (by
  have h1 := hQ _ hX.thr (trU.thr (t := 0) (j := 0) (by decide) (by decide)) (FrM.rf.w (by decide) (by decide))
  first
  | (rw [cAt, if_neg c9] at h1; exact h1)
  | (rw [cAt, if_pos hE, if_neg (lt_m1 c14).2, atI_neg (lt_m1 c14).1, if_neg (by decide)] at h1; exact h1)
  | (rw [cAt, if_pos hE, if_neg (nI_nm1 hkb), htk, atI_n hkb, es, isK_n (by omega), if_pos (decide_eq_true (show 100 ≤ s ∧ s < 106 from hsA)), ← es] at h1; exact h1)
  | (rw [cAt, if_pos hE, if_pos (m1_of c14 (Int32.not_le.mp c28)), htk] at h1; exact h1)
  | (have hge : ¬ i < 0 := fun z => c22 (by
       have b := Int32.lt_iff_toInt_lt.mp z
       have q0 : (0 : Int32).toInt = 0 := by decide
       apply Int32.lt_iff_toInt_lt.mpr
       rw [nI_toInt (by omega)]
       omega)
     obtain ⟨k, hkb, rfl⟩ := nI_of hge
     have hkl : (kY X).length ≤ k := Nat.not_lt.mp fun z => c22 (nI_lt z (by omega))
     rw [cAt, if_pos hE, if_neg (nI_nm1 hkb), htk, atI_n hkb, getD_ge hkl, if_neg (by decide)] at h1
     exact h1))
  · have hE : kE X = 0 := c9
    obtain ⟨hk, hl⟩ := hW hE
    obtain ⟨hsz, hrs⟩ := hX.2.2.2.2.2.2.2 hE
    have htk : (kY X).take 200 = kY X := List.take_of_length_le hl
    refine x_iload_n d_Mo_result_12 rfl rfl ?_
    refine x_iconst (v := -1) d_Mo_result_13 (by decide) ?_
    refine x_icmp_lt (tgt := 25) d_Mo_result_14 (by decide) (fun c14 => ?_) (fun c14 => ?_)
    · refine x_iconst (v := -1) d_Mo_result_25 (by decide) ?_
      exact x_ireturn d_Mo_result_26 rfl (by first | rfl | decide) (by
  have h1 := hQ _ hX.thr (trU.thr (t := 0) (j := 0) (by decide) (by decide)) (FrM.rf.w (by decide) (by decide))
  first
  | (rw [cAt, if_neg c9] at h1; exact h1)
  | (rw [cAt, if_pos hE, if_neg (lt_m1 c14).2, atI_neg (lt_m1 c14).1, if_neg (by decide)] at h1; exact h1)
  | (rw [cAt, if_pos hE, if_neg (nI_nm1 hkb), htk, atI_n hkb, es, isK_n (by omega), if_pos (decide_eq_true (show 100 ≤ s ∧ s < 106 from hsA)), ← es] at h1; exact h1)
  | (rw [cAt, if_pos hE, if_pos (m1_of c14 (Int32.not_le.mp c28)), htk] at h1; exact h1)
  | (have hge : ¬ i < 0 := fun z => c22 (by
       have b := Int32.lt_iff_toInt_lt.mp z
       have q0 : (0 : Int32).toInt = 0 := by decide
       apply Int32.lt_iff_toInt_lt.mpr
       rw [nI_toInt (by omega)]
       omega)
     obtain ⟨k, hkb, rfl⟩ := nI_of hge
     have hkl : (kY X).length ≤ k := Nat.not_lt.mp fun z => c22 (nI_lt z (by omega))
     rw [cAt, if_pos hE, if_neg (nI_nm1 hkb), htk, atI_n hkb, getD_ge hkl, if_neg (by decide)] at h1
     exact h1))
    · refine x_iload_n d_Mo_result_17 rfl rfl ?_
      first | refine x_aload_n d_Mo_result_18 rfl rfl ?_ | refine x_aloadN_n d_Mo_result_18 rfl rfl ?_ | refine x_aloadE_n d_Mo_result_18 rfl rfl ?_ | refine x_aloadO_n d_Mo_result_18 rfl rfl ?_
      refine x_getI d_Mo_result_19 f_Mo_292 rfl (by first | exact hM.1 | exact hM.s rfl | assumption) ?_
      rw [wI_j (by decide), hsz]
      refine x_icmp_lt (tgt := 27) d_Mo_result_22 (by decide) (fun c22 => ?_) (fun c22 => ?_)
      · refine x_iload_n d_Mo_result_27 rfl rfl ?_
        refine x_if_ge (tgt := 38) d_Mo_result_28 (by decide) (fun c28 => ?_) (fun c28 => ?_)
        · obtain ⟨k, hkb, rfl⟩ := nI_of (Int32.not_lt.mpr c28)
          have hkl : k < (kY X).length := (nI_ltI hkb (by omega)).mp c22
          obtain ⟨s, hs4, es, hsA⟩ := hk.getD hkl
          first | refine x_aload_n d_Mo_result_38 rfl rfl ?_ | refine x_aloadN_n d_Mo_result_38 rfl rfl ?_ | refine x_aloadE_n d_Mo_result_38 rfl rfl ?_ | refine x_aloadO_n d_Mo_result_38 rfl rfl ?_
          refine x_getR d_Mo_result_39 f_Mo_114 rfl (by first | exact hM.1 | exact hM.s rfl | assumption) (hM.r rfl) ?_
          refine x_iload_n d_Mo_result_42 rfl rfl ?_
          refine x_iald d_Mo_result_43 (by first | exact hM.1 | exact hM.s rfl | assumption) (vp_in_nI (show k < 200 by omega) (by decide)) ?_
          try rw [nI_clamp hkb, wI_o (by decide), hrs k hkl]
          exact x_ireturn d_Mo_result_44 rfl (by first | rfl | decide) (by
  have h1 := hQ _ hX.thr (trU.thr (t := 0) (j := 0) (by decide) (by decide)) (FrM.rf.w (by decide) (by decide))
  first
  | (rw [cAt, if_neg c9] at h1; exact h1)
  | (rw [cAt, if_pos hE, if_neg (lt_m1 c14).2, atI_neg (lt_m1 c14).1, if_neg (by decide)] at h1; exact h1)
  | (rw [cAt, if_pos hE, if_neg (nI_nm1 hkb), htk, atI_n hkb, es, isK_n (by omega), if_pos (decide_eq_true (show 100 ≤ s ∧ s < 106 from hsA)), ← es] at h1; exact h1)
  | (rw [cAt, if_pos hE, if_pos (m1_of c14 (Int32.not_le.mp c28)), htk] at h1; exact h1)
  | (have hge : ¬ i < 0 := fun z => c22 (by
       have b := Int32.lt_iff_toInt_lt.mp z
       have q0 : (0 : Int32).toInt = 0 := by decide
       apply Int32.lt_iff_toInt_lt.mpr
       rw [nI_toInt (by omega)]
       omega)
     obtain ⟨k, hkb, rfl⟩ := nI_of hge
     have hkl : (kY X).length ≤ k := Nat.not_lt.mp fun z => c22 (nI_lt z (by omega))
     rw [cAt, if_pos hE, if_neg (nI_nm1 hkb), htk, atI_n hkb, getD_ge hkl, if_neg (by decide)] at h1
     exact h1))
        · first | refine x_aload_n d_Mo_result_31 rfl rfl ?_ | refine x_aloadN_n d_Mo_result_31 rfl rfl ?_ | refine x_aloadE_n d_Mo_result_31 rfl rfl ?_ | refine x_aloadO_n d_Mo_result_31 rfl rfl ?_
          refine x_getI d_Mo_result_32 f_Mo_292 rfl (by first | exact hM.1 | exact hM.s rfl | assumption) ?_
          rw [wI_j (by decide), hsz]
          refine x_goto (tgt := 44) d_Mo_result_35 (by decide) ?_
          try rw [nI_clamp hkb, wI_o (by decide), hrs k hkl]
          exact x_ireturn d_Mo_result_44 rfl (by first | rfl | decide) (by
  have h1 := hQ _ hX.thr (trU.thr (t := 0) (j := 0) (by decide) (by decide)) (FrM.rf.w (by decide) (by decide))
  first
  | (rw [cAt, if_neg c9] at h1; exact h1)
  | (rw [cAt, if_pos hE, if_neg (lt_m1 c14).2, atI_neg (lt_m1 c14).1, if_neg (by decide)] at h1; exact h1)
  | (rw [cAt, if_pos hE, if_neg (nI_nm1 hkb), htk, atI_n hkb, es, isK_n (by omega), if_pos (decide_eq_true (show 100 ≤ s ∧ s < 106 from hsA)), ← es] at h1; exact h1)
  | (rw [cAt, if_pos hE, if_pos (m1_of c14 (Int32.not_le.mp c28)), htk] at h1; exact h1)
  | (have hge : ¬ i < 0 := fun z => c22 (by
       have b := Int32.lt_iff_toInt_lt.mp z
       have q0 : (0 : Int32).toInt = 0 := by decide
       apply Int32.lt_iff_toInt_lt.mpr
       rw [nI_toInt (by omega)]
       omega)
     obtain ⟨k, hkb, rfl⟩ := nI_of hge
     have hkl : (kY X).length ≤ k := Nat.not_lt.mp fun z => c22 (nI_lt z (by omega))
     rw [cAt, if_pos hE, if_neg (nI_nm1 hkb), htk, atI_n hkb, getD_ge hkl, if_neg (by decide)] at h1
     exact h1))
      · refine x_iconst (v := -1) d_Mo_result_25 (by decide) ?_
        exact x_ireturn d_Mo_result_26 rfl (by first | rfl | decide) (by
  have h1 := hQ _ hX.thr (trU.thr (t := 0) (j := 0) (by decide) (by decide)) (FrM.rf.w (by decide) (by decide))
  first
  | (rw [cAt, if_neg c9] at h1; exact h1)
  | (rw [cAt, if_pos hE, if_neg (lt_m1 c14).2, atI_neg (lt_m1 c14).1, if_neg (by decide)] at h1; exact h1)
  | (rw [cAt, if_pos hE, if_neg (nI_nm1 hkb), htk, atI_n hkb, es, isK_n (by omega), if_pos (decide_eq_true (show 100 ≤ s ∧ s < 106 from hsA)), ← es] at h1; exact h1)
  | (rw [cAt, if_pos hE, if_pos (m1_of c14 (Int32.not_le.mp c28)), htk] at h1; exact h1)
  | (have hge : ¬ i < 0 := fun z => c22 (by
       have b := Int32.lt_iff_toInt_lt.mp z
       have q0 : (0 : Int32).toInt = 0 := by decide
       apply Int32.lt_iff_toInt_lt.mpr
       rw [nI_toInt (by omega)]
       omega)
     obtain ⟨k, hkb, rfl⟩ := nI_of hge
     have hkl : (kY X).length ≤ k := Nat.not_lt.mp fun z => c22 (nI_lt z (by omega))
     rw [cAt, if_pos hE, if_neg (nI_nm1 hkb), htk, atI_n hkb, getD_ge hkl, if_neg (by decide)] at h1
     exact h1))
theorem sg_leaf {c : Int32} {lo hi A B : Nat} (h1 : ¬ c < nI lo) (h2 : ¬ nI hi < c) (hl : lo ≤ 1000) (hh : hi ≤ 1000) (hA : A ≤ 1000) (hB : B ≤ A + lo) : ¬ nI A + c - nI B < 0 := by
  have h0 : ¬ c < 0 := fun z => h1 (by
    have b := Int32.lt_iff_toInt_lt.mp z
    have q0 : (0 : Int32).toInt = 0 := by decide
    apply Int32.lt_iff_toInt_lt.mpr
    rw [nI_toInt (by omega)]
    omega)
  obtain ⟨k, hk, rfl⟩ := nI_of h0
  have a1 : lo ≤ k := Nat.not_lt.mp fun z => h1 (nI_lt z (by omega))
  have a2 : k ≤ hi := Nat.not_lt.mp fun z => h2 (nI_lt z hk)
  rw [nI_add, nI_sub (by omega)]
  exact nI_pos (by omega)
theorem sgn_neg {c : Int32} (h : sgn c < 0) : sgn c = -1 := by
  have L1 : ¬ c < 48 → ¬ 55 < c → ¬ 200 + c - 48 < 0 := fun a b => sg_leaf (lo := 48) (hi := 55) (A := 200) (B := 48) a b (by decide) (by decide) (by decide) (by decide)
  have L2 : ¬ c < 75 → ¬ 80 < c → ¬ 100 + c - 75 < 0 := fun a b => sg_leaf (lo := 75) (hi := 80) (A := 100) (B := 75) a b (by decide) (by decide) (by decide) (by decide)
  have L3 : ¬ c < 97 → ¬ 104 < c → ¬ c - 97 < 0 := fun a b => by
    have := sg_leaf (lo := 97) (hi := 104) (A := 0) (B := 97) a b (by decide) (by decide) (by decide) (by decide)
    rw [nI_0, Int32.zero_add] at this
    exact this
  unfold sgn at h ⊢
  by_cases h1 : c < 97 <;> by_cases h2 : 104 < c <;> by_cases h3 : c < 75 <;> by_cases h4 : 80 < c <;> by_cases h5 : c < 48 <;> by_cases h6 : 55 < c <;> simp only [h1, h2, h3, h4, h5, h6, if_true, if_false] at h ⊢ <;> first | rfl | exact absurd h (L1 h5 h6) | exact absurd h (L2 h3 h4) | exact absurd h (L3 h1 h2)
set_option maxRecDepth 10000 in
set_option maxHeartbeats 1000000 in
theorem c_Mo_type {G : Ctx} {d : Nat} {Γ : List Sh} {σ : Mem} {Q : Option Value → List Sh → Mem → Prop} {X : CS} {v : Int64} (hM : MoS Γ σ) (hX : isMC σ X) (hlt : (kT X).length ≤ 24) (hQ : ∀ σ', isMC σ' (csTyp X v) → trU σ σ' → σ'.1 391 0 = 0 → FrM σ σ' → Q (some (.int (bI (typOK (kT X) v)))) Γ σ') : Ct G M_Mo_type (d + 1) 0 0 [rf G 391, .long v] Γ σ Q := by
  have lp : ∀ (k : Nat) (l : List Int32) (τ : Mem), l ++ (ltrs v k).map sgn = kT X ++ (ltrs v 8).map sgn → (ltrs v k).all (fun c => decide (sgn c ≠ -1)) = (ltrs v 8).all (fun c => decide (sgn c ≠ -1)) → l.length ≤ 24 → k ≤ 8 → seg τ 392 0 l → FrI [392] (wI σ 391 0 0) τ → (kT X).length ≤ l.length → Wq G M_Mo_type (Em G (d + 1) 0 0 Q) 0 0 14 [some (rf G 391), none, none, some (.int (nI l.length)), some (.int (nI (8 * k) - 8)), none] [(1, v)] [] Γ τ := by
    intro k
    induction k with
    | zero =>
      intro l τ h2 h3 hl hk hs f0 hle
      have hM := (hM.w (a := 391) (j := 0) (v := 0)).fr f0
      have hU : trU σ τ := ((trU.thr (by decide) (by decide)).tr (trU.of f0 (by simp)))
      have h0 : τ.1 391 0 = 0 := by rw [f0.2 391 (by simp), wI_s]
      have hFM : FrM σ τ := (FrM.rf.w (by decide) (by decide)).tr (f0.M (by simp))
      have hX1 : isMC τ X := by
        have z := hX.thr (t := 0)
        refine ⟨⟨by rw [f0.2 391 (by simp)]; exact z.1.1, fun i hi => ?_⟩, fun f hf => by rw [f0.2 393 (by simp), f0.2 394 (by simp)]; exact z.2.1 f hf, fun f c hf hc => by rw [f0.2 396 (by simp)]; exact ⟨(z.2.2.1 f c hf hc).1, (z.2.2.1 f c hf hc).2.fr f0 (by simp)⟩, ⟨by rw [f0.2 391 (by simp)]; exact z.2.2.2.1.1, z.2.2.2.1.2.fr f0 (by simp)⟩, fun w hw => by rw [f0.2 399 (by simp)]; exact ⟨(z.2.2.2.2.1 w hw).1, (z.2.2.2.2.1 w hw).2.fr f0 (by simp)⟩, by rw [mRn, f0.2 391 (by simp), f0.2 425 (by simp)]; exact z.2.2.2.2.2⟩
        have hil : i < l.length := by omega
        rw [hs i hil]
        have e := congrArg (fun w => w.getD i (-1)) h2
        rw [List.getD_eq_getElem?_getD, List.getElem?_append_left hil, ← List.getD_eq_getElem?_getD] at e
        rw [e, List.getD_eq_getElem?_getD, List.getElem?_append_left hi, ← List.getD_eq_getElem?_getD]
      refine x_iload d_Mo_type_14 rfl ?_
      refine x_if_lt (tgt := 74) d_Mo_type_16 (by decide) (fun c16 => ?_) (fun c16 => ?_)
      · first | refine x_aload_n d_Mo_type_74 rfl rfl ?_ | refine x_aloadN_n d_Mo_type_74 rfl rfl ?_ | refine x_aloadE_n d_Mo_type_74 rfl rfl ?_ | refine x_aloadO_n d_Mo_type_74 rfl rfl ?_
        refine x_iload_n d_Mo_type_75 rfl rfl ?_
        refine x_putI d_Mo_type_76 (w_Mo_m_127 _) rfl (by first | rfl | decide) (by first | rfl | decide) (by first | exact hM.1 | exact hM.s rfl | assumption) ?_
        refine x_iconst (v := 1) d_Mo_type_79 (by decide) ?_
        exact x_ireturn d_Mo_type_80 rfl (by first | rfl | decide) (by
          have e1 : ltrs v 0 = [] := rfl
          rw [e1] at h2 h3
          rw [List.map_nil, List.append_nil] at h2
          have hyes : typOK (kT X) v = true := by
            rw [typOK, ← h3]
            have e2 := congrArg List.length h2
            rw [List.length_append, List.length_map] at e2
            simp
            omega
          have h1 := hQ (wI τ 391 1 (nI l.length)) (by
            rw [csTyp, if_pos hyes, ← h2]
            refine ⟨⟨wI_s, fun i hi => ?_⟩, hX1.2.1, hX1.2.2.1, ⟨?_, hX1.2.2.2.1.2⟩, hX1.2.2.2.2.1, ?_⟩
            · rw [wI_o (by decide)]; exact hs i hi
            · rw [wI_j (by decide)]; exact hX1.2.2.2.1.1
            · exact hX1.2.2.2.2.2) (hU.tr (trU.thr (by decide) (by decide))) (by rw [wI_j (by decide)]; exact h0) (hFM.w (by decide) (by decide))
          rw [hyes] at h1
          exact h1)
      · exact absurd neg8 c16
    | succ k ih =>
      intro l τ h2 h3 hl hk hs f0 hle
      have hM := (hM.w (a := 391) (j := 0) (v := 0)).fr f0
      rw [nI_d8]
      have hU : trU σ τ := ((trU.thr (by decide) (by decide)).tr (trU.of f0 (by simp)))
      have h0 : τ.1 391 0 = 0 := by rw [f0.2 391 (by simp), wI_s]
      have hFM : FrM σ τ := (FrM.rf.w (by decide) (by decide)).tr (f0.M (by simp))
      have hX1 : isMC τ X := by
        have z := hX.thr (t := 0)
        refine ⟨⟨by rw [f0.2 391 (by simp)]; exact z.1.1, fun i hi => ?_⟩, fun f hf => by rw [f0.2 393 (by simp), f0.2 394 (by simp)]; exact z.2.1 f hf, fun f c hf hc => by rw [f0.2 396 (by simp)]; exact ⟨(z.2.2.1 f c hf hc).1, (z.2.2.1 f c hf hc).2.fr f0 (by simp)⟩, ⟨by rw [f0.2 391 (by simp)]; exact z.2.2.2.1.1, z.2.2.2.1.2.fr f0 (by simp)⟩, fun w hw => by rw [f0.2 399 (by simp)]; exact ⟨(z.2.2.2.2.1 w hw).1, (z.2.2.2.2.1 w hw).2.fr f0 (by simp)⟩, by rw [mRn, f0.2 391 (by simp), f0.2 425 (by simp)]; exact z.2.2.2.2.2⟩
        have hil : i < l.length := by omega
        rw [hs i hil]
        have e := congrArg (fun w => w.getD i (-1)) h2
        rw [List.getD_eq_getElem?_getD, List.getElem?_append_left hil, ← List.getD_eq_getElem?_getD] at e
        rw [e, List.getD_eq_getElem?_getD, List.getElem?_append_left hi, ← List.getD_eq_getElem?_getD]
      refine x_iload d_Mo_type_14 rfl ?_
      refine x_if_lt (tgt := 74) d_Mo_type_16 (by decide) (fun c16 => ?_) (fun c16 => ?_)
      · exact absurd c16 (nI_nneg _ (by omega))
      · refine x_lload_n d_Mo_type_19 rfl (by first | exact .head _ | exact .tail _ (.head _) | simp) ?_
        refine x_iload d_Mo_type_20 rfl ?_
        refine x_lshr d_Mo_type_22 ?_
        refine x_ldc2 d_Mo_type_23 kl_Mo ?_
        refine x_land d_Mo_type_26 ?_
        refine x_l2i d_Mo_type_27 ?_
        rw [ltr_m v (by omega)]
        refine x_istore d_Mo_type_28 rfl ?_
        refine x_iload d_Mo_type_30 rfl ?_
        refine x_if_ne (tgt := 38) d_Mo_type_32 (by decide) (fun c32 => ?_) (fun c32 => ?_)
        · refine x_iload d_Mo_type_38 rfl ?_
          refine x_callS1 d_Mo_type_40 k_Mo_signOf l_Mo_132 z_Mo_signOf RoomE.m (Nat.le_of_ble_eq_true rfl) (c_Mo_signOf ?_)
          refine x_if_lt (tgt := 52) d_Mo_type_43 (by decide) (fun c43 => ?_) (fun c43 => ?_)
          · have hno : typOK (kT X) v = false := by
              rw [typOK, Bool.and_eq_false_iff]
              left
              rw [← h3, ltrs, if_neg c32, List.all_cons, decide_eq_false (fun z => z (sgn_neg c43)), Bool.false_and]
            refine x_iconst (v := 0) d_Mo_type_52 (by decide) ?_
            exact x_ireturn d_Mo_type_53 rfl (by first | rfl | decide) (by
              have h1 := hQ τ (by
                rw [csTyp, hno, if_neg (by decide)]
                exact hX1) hU h0 hFM
              rw [hno] at h1
              exact h1)
          · refine x_iload_n d_Mo_type_46 rfl rfl ?_
            refine x_bipush (v := 24) d_Mo_type_47 (by decide) ?_
            refine x_icmp_ne (tgt := 54) d_Mo_type_49 (by decide) (fun c49 => ?_) (fun c49 => ?_)
            · have hl24 : l.length < 24 := by
                have : l.length ≠ 24 := fun z => c49 (by rw [z]; rfl)
                omega
              have hsg : sgn (ltr v (nI (8 * k))) ≠ -1 := fun z => c43 (by rw [z]; decide)
              first | refine x_aload_n d_Mo_type_54 rfl rfl ?_ | refine x_aloadN_n d_Mo_type_54 rfl rfl ?_ | refine x_aloadE_n d_Mo_type_54 rfl rfl ?_ | refine x_aloadO_n d_Mo_type_54 rfl rfl ?_
              refine x_getR d_Mo_type_55 f_Mo_7 rfl (by first | exact hM.1 | exact hM.s rfl | assumption) (hM.r rfl) ?_
              refine x_iload_n d_Mo_type_58 rfl rfl ?_
              refine x_iload d_Mo_type_59 rfl ?_
              refine x_callS1 d_Mo_type_61 k_Mo_signOf l_Mo_132 z_Mo_signOf RoomE.m (Nat.le_of_ble_eq_true rfl) (c_Mo_signOf ?_)
              refine x_iast d_Mo_type_64 (by first | exact hM.1 | exact hM.s rfl | assumption) (vp_in_nI (show l.length < 24 by omega) (by decide)) ?_
              rw [nI_clamp (by omega)]
              refine x_iinc (v := nI (l ++ [sgn (ltr v (nI (8 * k)))]).length) d_Mo_type_65 rfl (by rw [List.length_append]; exact nI_1 _) rfl ?_
              refine x_iinc (v := nI (8 * k) - 8) d_Mo_type_68 rfl (by rw [Int32.sub_eq_add_neg]; rfl) rfl ?_
              refine x_goto (tgt := 14) d_Mo_type_71 (by decide) ?_
              exact Wq.fgl (ih (l ++ [sgn (ltr v (nI (8 * k)))]) _ (by rw [ltrs, if_neg c32, List.map_cons] at h2; rw [List.append_assoc]; exact h2) (by rw [ltrs, if_neg c32, List.all_cons, decide_eq_true hsg, Bool.true_and] at h3; exact h3) (by rw [List.length_append]; exact hl24) (by omega) (fun i hi => by
                rw [List.length_append] at hi
                have hi' : i < l.length + 1 := hi
                by_cases e : i = l.length
                · rw [e, Nat.zero_add, wI_s, List.getD_eq_getElem?_getD, List.getElem?_append_right (Nat.le_refl _), Nat.sub_self]; rfl
                · rw [wI_j (by omega), hs i (by omega), List.getD_eq_getElem?_getD, List.getD_eq_getElem?_getD, List.getElem?_append_left (by omega)]) (f0.put (by simp)) (by rw [List.length_append]; omega)) ⟨rfl, rfl, rfl, trivial⟩ (fun q hq => by rw [List.mem_singleton.mp hq]; exact .head _)
            · have hno : typOK (kT X) v = false := by
                rw [typOK, Bool.and_eq_false_iff]
                right
                have e1 := congrArg List.length h2
                rw [List.length_append, List.length_append, List.length_map, List.length_map, ltrs, if_neg c32, List.length_cons] at e1
                have e2 : l.length = 24 := nI_inj (show nI l.length = nI 24 from c49) (by omega) (by decide)
                exact decide_eq_false (by omega)
              refine x_iconst (v := 0) d_Mo_type_52 (by decide) ?_
              exact x_ireturn d_Mo_type_53 rfl (by first | rfl | decide) (by
                have h1 := hQ τ (by
                  rw [csTyp, hno, if_neg (by decide)]
                  exact hX1) hU h0 hFM
                rw [hno] at h1
                exact h1)
        · refine x_goto (tgt := 68) d_Mo_type_35 (by decide) ?_
          refine x_iinc (v := nI (8 * k) - 8) d_Mo_type_68 rfl (by rw [Int32.sub_eq_add_neg]; rfl) rfl ?_
          refine x_goto (tgt := 14) d_Mo_type_71 (by decide) ?_
          exact Wq.fgl (ih l τ (by rw [ltrs, if_pos c32] at h2; exact h2) (by rw [ltrs, if_pos c32] at h3; exact h3) hl (by omega) hs f0 hle) ⟨rfl, rfl, rfl, trivial⟩ (fun q hq => by rw [List.mem_singleton.mp hq]; exact .head _)
  refine Ct.of (lv := [some (rf G 391), none, none, none, none, none]) (ll := [(1, v)]) rfl rfl ⟨Nat.le_of_ble_eq_true rfl, fun i w h => ?_, fun q hq => ?_⟩ ?_
  · rcases i with _ | _ | _ | _ | _ | _ | i
    · cases h; exact ⟨by simp [lv_args], rfl⟩
    all_goals (simp at h)
  · rw [List.mem_singleton.mp hq]; simp [lv_args, rf, Value.category]
  first | refine x_aload_n d_Mo_type_0 rfl rfl ?_ | refine x_aloadN_n d_Mo_type_0 rfl rfl ?_ | refine x_aloadE_n d_Mo_type_0 rfl rfl ?_ | refine x_aloadO_n d_Mo_type_0 rfl rfl ?_
  refine x_iconst (v := 0) d_Mo_type_1 (by decide) ?_
  refine x_putI d_Mo_type_2 (w_Mo_m_117 _) rfl (by first | rfl | decide) (by first | rfl | decide) (by first | exact hM.1 | exact hM.s rfl | assumption) ?_
  first | refine x_aload_n d_Mo_type_5 rfl rfl ?_ | refine x_aloadN_n d_Mo_type_5 rfl rfl ?_ | refine x_aloadE_n d_Mo_type_5 rfl rfl ?_ | refine x_aloadO_n d_Mo_type_5 rfl rfl ?_
  refine x_getI d_Mo_type_6 f_Mo_127 rfl (by first | exact hM.1 | exact hM.s rfl | assumption) ?_
  rw [wI_j (by decide), hX.1.1]
  refine x_istore_n d_Mo_type_9 rfl rfl ?_
  refine x_bipush (v := 56) d_Mo_type_10 (by decide) ?_
  refine x_istore d_Mo_type_12 rfl ?_
  exact Wq.fgl (lp 8 (kT X) _ rfl rfl hlt (by omega) (fun i hi => by rw [wI_o (by decide)]; exact hX.1.2 i hi) FrI.rf (Nat.le_refl _)) ⟨rfl, rfl, by decide, trivial⟩ (fun q hq => by rw [List.mem_singleton.mp hq]; exact .head _)
