/-! SuperDriver$Program: a SourceProgram (ci = 4) or a ResidualProgram (ci = 9) at cell q -/
def isPr (Γ : List Sh) (σ : Mem) (ci q g c : Nat) : Prop := Γ[q]? = some (0, ci) ∧ σ.2.1 q 1 = some g ∧ σ.2.1 q 2 = some c
theorem isSrc.pr {Γ : List Sh} {σ : Mem} {q g c : Nat} {bd : Nat → List Int32} (h : isSrc Γ σ q g c bd) : isPr Γ σ 4 q g c := ⟨h.1, h.2.2.2.1, h.2.2.2.2.1⟩
def caf (cs : Nat → Bool) (zs : List Int32) (a : Nat) : Int32 := if sgC cs (zs.getD a (-1)) && isK (zs.getD (a + 1) (-1)) then zs.getD (a + 1) (-1) - 100 else -1
def ufs (cs : Nat → Bool) (pb : Int32 → Int32 → Option Nat) (zs : List Int32) (a : Nat) : Bool := if sgC cs (zs.getD a (-1)) then (if caf cs zs a = -1 then false else (pb (zs.getD a (-1)) (caf cs zs a)).isSome) else (pb (zs.getD a (-1)) (caf cs zs a)).isSome
/-- where the parts begin -/
def ends (P : Int32 → Int32) (zs : List Int32) (p0 : Nat) : Nat → Nat
  | 0 => p0
  | j + 1 => behind P zs (ends P zs p0 j)
theorem ends_le {P : Int32 → Int32} {zs : List Int32} {p0 : Nat} (h : p0 ≤ zs.length) : ∀ j, ends P zs p0 j ≤ zs.length
  | 0 => h
  | j + 1 => behind_le (ends_le h j)
/-- what a body's sign becomes, with the first j parts bound -/
def uS (P : Int32 → Int32) (zs : List Int32) (pv : Nat → Int32) (p0 : Nat) : Nat → Int32 → List Int32
  | 0, s => [s]
  | j + 1, s => if isV s = true ∧ s = pv j then (zs.take (ends P zs p0 (j + 1))).drop (ends P zs p0 j) else uS P zs pv p0 j s
def unf (P : Int32 → Int32) (zs : List Int32) (pv : Nat → Int32) (a p0 cnt : Nat) (bs : List Int32) : List Int32 := zs.take a ++ bs.flatMap (uS P zs pv p0 cnt) ++ zs.drop (ends P zs p0 cnt)
def bn (P : Int32 → Int32) (zs : List Int32) (pv : Nat → Int32) (p0 r : Nat) : Nat → Nat → Option (Nat × Nat × Nat)
  | 0 => fun _ => none
  | j + 1 => if isV (pv j) = true then upN (bn P zs pv p0 r j) (pv j).toNatClampNeg (some (r, ends P zs p0 j, ends P zs p0 (j + 1))) else bn P zs pv p0 r j
def Bn (P : Int32 → Int32) (zs : List Int32) (pv : Nat → Int32) (p0 : Nat) : Nat → Nat → List Int32
  | 0 => fun _ => []
  | j + 1 => if isV (pv j) = true then upN (Bn P zs pv p0 j) (pv j).toNatClampNeg ((zs.take (ends P zs p0 (j + 1))).drop (ends P zs p0 j)) else Bn P zs pv p0 j
theorem isV_inj {s t : Int32} (hs : isV s = true) (ht : isV t = true) (h : s.toNatClampNeg = t.toNatClampNeg) : s = t := by
  have h0 : ¬ s < 0 := fun z => by simp [isV, z] at hs
  have h1 : ¬ t < 0 := fun z => by simp [isV, z] at ht
  obtain ⟨a, ha, rfl⟩ := nI_of h0
  obtain ⟨b, hb, rfl⟩ := nI_of h1
  rw [nI_clamp ha, nI_clamp hb] at h
  rw [h]
theorem sub_uS {P : Int32 → Int32} {zs : List Int32} {pv : Nat → Int32} {p0 r : Nat} {s : Int32} : ∀ (j : Nat), sub1 (bn P zs pv p0 r j) (Bn P zs pv p0 j) s = uS P zs pv p0 j s
  | 0 => by
    unfold sub1 uS bn
    split <;> rfl
  | j + 1 => by
    have ih := sub_uS (P := P) (zs := zs) (pv := pv) (p0 := p0) (r := r) (s := s) j
    unfold uS
    rw [← ih]
    by_cases hj : isV (pv j) = true
    · by_cases e : isV s = true ∧ s = pv j
      · rw [if_pos e]
        unfold sub1
        rw [if_pos e.1, e.2]
        simp [bn, Bn, upN, hj]
      · rw [if_neg e]
        unfold sub1
        by_cases hs : isV s = true
        · have hne : s.toNatClampNeg ≠ (pv j).toNatClampNeg := fun z => e ⟨hs, isV_inj hs hj z⟩
          rw [if_pos hs, if_pos hs]
          simp [bn, Bn, upN, hne, hj]
        · rw [if_neg hs, if_neg hs]
    · have e : ¬ (isV s = true ∧ s = pv j) := fun z => hj (z.2 ▸ z.1)
      rw [if_neg e]
      simp only [bn, Bn, if_neg hj]
theorem bn_ok {Γ : List Sh} {τ : Mem} {P : Int32 → Int32} {ys : List Int32} {pv : Nat → Int32} {p0 r n rt : Nat} (hR : isRow Γ τ r n ys) (hne : r ≠ rt) (hp : p0 ≤ (ys.take n).length) : ∀ j, bdOK Γ τ rt (bn P (ys.take n) pv p0 r j) (Bn P (ys.take n) pv p0 j)
  | 0 => fun v rr f t _ h => by cases h
  | j + 1 => fun v rr f t hv h => by
    have htl := hR.tl
    have e1 := ends_le (P := P) hp j
    have e2 := ends_le (P := P) hp (j + 1)
    by_cases hj : isV (pv j) = true
    · by_cases e : v = (pv j).toNatClampNeg
      · subst e
        simp only [bn, if_pos hj, upN, if_true] at h
        cases h
        refine ⟨hne, by omega, by omega, n, ys, hR, ?_⟩
        simp [Bn, upN, hj]
      · simp only [bn, if_pos hj, upN, if_neg e] at h
        obtain ⟨a, b, c, m, os, d, f2⟩ := bn_ok hR hne hp j v rr f t hv h
        exact ⟨a, b, c, m, os, d, by simp only [Bn, if_pos hj, upN, if_neg e]; exact f2⟩
    · simp only [bn, if_neg hj] at h
      obtain ⟨a, b, c, m, os, d, f2⟩ := bn_ok hR hne hp j v rr f t hv h
      exact ⟨a, b, c, m, os, d, by simp only [Bn, if_neg hj]; exact f2⟩
set_option maxRecDepth 10000 in
set_option maxHeartbeats 1000000 in
theorem c_caf_4 {G : Ctx} {d : Nat} {Γ : List Sh} {σ : Mem} {Q : Option Value → List Sh → Mem → Prop} {q g c r n a : Nat} {ys : List Int32} {pt : Nat → Int32} {cs : Nat → Bool} (hPr : isPr Γ σ 4 q g c) (hG : isSg Γ σ g pt cs) (hR : isRow Γ σ r n ys) (ha : a ≤ 1000000) (hQ : Q (some (.int (caf cs (ys.take n) a))) Γ σ) : Ct G M_Program_constructorAskedFor (d + 1) 0 0 [rf G q, rf G r, .int (nI a)] Γ σ Q := by
  obtain ⟨q1, q2, q3⟩ := id hPr
  obtain ⟨a1, a2, a3, a4, a5, a6, a7⟩ := id hR
  obtain ⟨⟨g1, g2, g3, g4, g5, g6⟩, -⟩ := id hG
  have htl := hR.tl
  refine Ct.of (lv := [some (rf G q), some (rf G r), some (.int (nI a)), none]) (ll := []) rfl rfl (EN.cat (n := 1) ⟨rfl, rfl, rfl, trivial⟩ (Nat.le_of_ble_eq_true rfl)) ?_
  first | refine x_aload_n d_Program_constructorAskedFor_0 rfl rfl ?_ | refine x_aloadN_n d_Program_constructorAskedFor_0 rfl rfl ?_ | refine x_aloadE_n d_Program_constructorAskedFor_0 rfl rfl ?_ | refine x_aloadO_n d_Program_constructorAskedFor_0 rfl rfl ?_
  refine x_iload_n d_Program_constructorAskedFor_1 rfl rfl ?_
  refine x_iconst (v := 1) d_Program_constructorAskedFor_2 (by decide) ?_
  refine x_iadd d_Program_constructorAskedFor_3 ?_
  rw [nI_1]
  refine x_callV1 d_Program_constructorAskedFor_4 k_Row_at l_Program_23 v_Row_at rfl s_Row_at (by assumption) RoomE.m (Nat.le_of_ble_eq_true rfl) (c_Row_at hR ?_)
  rw [atI_nI (by omega)]
  refine x_istore_n d_Program_constructorAskedFor_7 rfl rfl ?_
  first | refine x_aload_n d_Program_constructorAskedFor_8 rfl rfl ?_ | refine x_aloadN_n d_Program_constructorAskedFor_8 rfl rfl ?_ | refine x_aloadE_n d_Program_constructorAskedFor_8 rfl rfl ?_ | refine x_aloadO_n d_Program_constructorAskedFor_8 rfl rfl ?_
  refine x_getR d_Program_constructorAskedFor_9 f_Program_9_4 rfl (by assumption) (by assumption) ?_
  first | refine x_aload_n d_Program_constructorAskedFor_12 rfl rfl ?_ | refine x_aloadN_n d_Program_constructorAskedFor_12 rfl rfl ?_ | refine x_aloadE_n d_Program_constructorAskedFor_12 rfl rfl ?_ | refine x_aloadO_n d_Program_constructorAskedFor_12 rfl rfl ?_
  refine x_iload_n d_Program_constructorAskedFor_13 rfl rfl ?_
  refine x_callV1 d_Program_constructorAskedFor_14 k_Row_at l_Program_23 v_Row_at rfl s_Row_at (by assumption) RoomE.m (Nat.le_of_ble_eq_true rfl) (c_Row_at hR ?_)
  rw [atI_nI (by omega)]
  refine x_callV1 d_Program_constructorAskedFor_17 k_Signs_isCased l_Program_29 v_Signs_isCased rfl s_Signs_isCased (by assumption) RoomE.m (Nat.le_of_ble_eq_true rfl) (c_Signs_isCased hG ?_)
  refine x_if_eq (tgt := 37) d_Program_constructorAskedFor_20 (by decide) (fun c20 => ?_) (fun c20 => ?_)
  · refine x_iconst (v := -1) d_Program_constructorAskedFor_37 (by decide) ?_
    exact x_ireturn d_Program_constructorAskedFor_38 rfl rfl (by rw [caf] at hQ; first | (rw [bI_0 c20, Bool.false_and, if_neg (by decide)] at hQ; exact hQ) | (rw [bI_0 c27, Bool.and_false, if_neg (by decide)] at hQ; exact hQ) | (rw [bI_n0 c20, bI_n0 c27, Bool.and_true, if_pos rfl] at hQ; exact hQ))
  · refine x_iload_n d_Program_constructorAskedFor_23 rfl rfl ?_
    refine x_callSN1 d_Program_constructorAskedFor_24 k_SD_isConstructor ln_Program_76 z_SD_isConstructor RoomE.m (Nat.le_of_ble_eq_true rfl) (c_SD_isConstructor ?_)
    refine x_if_eq (tgt := 37) d_Program_constructorAskedFor_27 (by decide) (fun c27 => ?_) (fun c27 => ?_)
    · refine x_iconst (v := -1) d_Program_constructorAskedFor_37 (by decide) ?_
      exact x_ireturn d_Program_constructorAskedFor_38 rfl rfl (by rw [caf] at hQ; first | (rw [bI_0 c20, Bool.false_and, if_neg (by decide)] at hQ; exact hQ) | (rw [bI_0 c27, Bool.and_false, if_neg (by decide)] at hQ; exact hQ) | (rw [bI_n0 c20, bI_n0 c27, Bool.and_true, if_pos rfl] at hQ; exact hQ))
    · refine x_iload_n d_Program_constructorAskedFor_30 rfl rfl ?_
      refine x_bipush (v := 100) d_Program_constructorAskedFor_31 (by decide) ?_
      refine x_isub d_Program_constructorAskedFor_33 ?_
      refine x_goto (tgt := 38) d_Program_constructorAskedFor_34 (by decide) ?_
      exact x_ireturn d_Program_constructorAskedFor_38 rfl rfl (by rw [caf] at hQ; first | (rw [bI_0 c20, Bool.false_and, if_neg (by decide)] at hQ; exact hQ) | (rw [bI_0 c27, Bool.and_false, if_neg (by decide)] at hQ; exact hQ) | (rw [bI_n0 c20, bI_n0 c27, Bool.and_true, if_pos rfl] at hQ; exact hQ))
set_option maxRecDepth 10000 in
set_option maxHeartbeats 1000000 in
theorem c_unfolds_4 {G : Ctx} {d : Nat} {Γ : List Sh} {σ : Mem} {Q : Option Value → List Sh → Mem → Prop} {q g c r n a : Nat} {ys : List Int32} {pt : Nat → Int32} {cs : Nat → Bool} {pb : Int32 → Int32 → Option Nat} (hPr : isPr Γ σ 4 q g c) (hG : isSg Γ σ g pt cs) (hR : isRow Γ σ r n ys) (ha : a ≤ 1000000) (hb : ∀ (Q2 : Option Value → List Sh → Mem → Prop) (s x : Int32), Q2 (some (ov G (pb s x))) Γ σ → Ct G M_SourceProgram_bodyOf (d + 2) 0 0 [rf G q, .int s, .int x] Γ σ Q2) (hQ : Q (some (.int (bI (ufs cs pb (ys.take n) a)))) Γ σ) : Ct G M_Program_unfolds (d + 3) 0 0 [rf G q, rf G r, .int (nI a)] Γ σ Q := by
  obtain ⟨q1, q2, q3⟩ := id hPr
  obtain ⟨a1, a2, a3, a4, a5, a6, a7⟩ := id hR
  obtain ⟨⟨g1, g2, g3, g4, g5, g6⟩, -⟩ := id hG
  have htl := hR.tl
  refine Ct.of (lv := [some (rf G q), some (rf G r), some (.int (nI a)), none]) (ll := []) rfl rfl (EN.cat (n := 1) ⟨rfl, rfl, rfl, trivial⟩ (Nat.le_of_ble_eq_true rfl)) ?_
  first | refine x_aload_n d_Program_unfolds_0 rfl rfl ?_ | refine x_aloadN_n d_Program_unfolds_0 rfl rfl ?_ | refine x_aloadE_n d_Program_unfolds_0 rfl rfl ?_ | refine x_aloadO_n d_Program_unfolds_0 rfl rfl ?_
  first | refine x_aload_n d_Program_unfolds_1 rfl rfl ?_ | refine x_aloadN_n d_Program_unfolds_1 rfl rfl ?_ | refine x_aloadE_n d_Program_unfolds_1 rfl rfl ?_ | refine x_aloadO_n d_Program_unfolds_1 rfl rfl ?_
  refine x_iload_n d_Program_unfolds_2 rfl rfl ?_
  refine x_callP2 d_Program_unfolds_3 k_Program_constructorAskedFor l_Program_19 sm_Program_constructorAskedFor ⟨by decide, by decide⟩ (by decide +kernel) (Or.inr ⟨_, _, _, v_Program_constructorAskedFor, (k_Program_constructorAskedFor).1⟩) v_Program_constructorAskedFor rfl pv_Program_constructorAskedFor ins_SourceProgram rfl rfl (by assumption) RoomE.m (Nat.le_of_ble_eq_true rfl) (c_caf_4 hPr hG hR ha ?_)
  refine x_istore_n d_Program_unfolds_6 rfl rfl ?_
  first | refine x_aload_n d_Program_unfolds_7 rfl rfl ?_ | refine x_aloadN_n d_Program_unfolds_7 rfl rfl ?_ | refine x_aloadE_n d_Program_unfolds_7 rfl rfl ?_ | refine x_aloadO_n d_Program_unfolds_7 rfl rfl ?_
  refine x_getR d_Program_unfolds_8 f_Program_9_4 rfl (by assumption) (by assumption) ?_
  first | refine x_aload_n d_Program_unfolds_11 rfl rfl ?_ | refine x_aloadN_n d_Program_unfolds_11 rfl rfl ?_ | refine x_aloadE_n d_Program_unfolds_11 rfl rfl ?_ | refine x_aloadO_n d_Program_unfolds_11 rfl rfl ?_
  refine x_iload_n d_Program_unfolds_12 rfl rfl ?_
  refine x_callV1 d_Program_unfolds_13 k_Row_at l_Program_23 v_Row_at rfl s_Row_at (by assumption) RoomE.m (Nat.le_of_ble_eq_true rfl) (c_Row_at hR ?_)
  rw [atI_nI (by omega)]
  refine x_callV1 d_Program_unfolds_16 k_Signs_isCased l_Program_29 v_Signs_isCased rfl s_Signs_isCased (by assumption) RoomE.m (Nat.le_of_ble_eq_true rfl) (c_Signs_isCased hG ?_)
  refine x_if_eq (tgt := 27) d_Program_unfolds_19 (by decide) (fun c19 => ?_) (fun c19 => ?_)
  · first | refine x_aload_n d_Program_unfolds_27 rfl rfl ?_ | refine x_aloadN_n d_Program_unfolds_27 rfl rfl ?_ | refine x_aloadE_n d_Program_unfolds_27 rfl rfl ?_ | refine x_aloadO_n d_Program_unfolds_27 rfl rfl ?_
    first | refine x_aload_n d_Program_unfolds_28 rfl rfl ?_ | refine x_aloadN_n d_Program_unfolds_28 rfl rfl ?_ | refine x_aloadE_n d_Program_unfolds_28 rfl rfl ?_ | refine x_aloadO_n d_Program_unfolds_28 rfl rfl ?_
    refine x_iload_n d_Program_unfolds_29 rfl rfl ?_
    refine x_callV1 d_Program_unfolds_30 k_Row_at l_Program_23 v_Row_at rfl s_Row_at (by assumption) RoomE.m (Nat.le_of_ble_eq_true rfl) (c_Row_at hR ?_)
    rw [atI_nI (by omega)]
    refine x_iload_n d_Program_unfolds_33 rfl rfl ?_
    refine x_callU2 d_Program_unfolds_34 k_SourceProgram_bodyOf l_Program_35 sm_Program_bodyOf ⟨by decide, by decide⟩ (by decide +kernel) (Or.inl dc_Program_bodyOf) v_SourceProgram_bodyOf rfl so_SourceProgram_bodyOf (by assumption) RoomE.m (Nat.le_of_ble_eq_true rfl) (hb _ _ _ ?_)
    cases hpb : pb ((ys.take n).getD a (-1)) (caf cs (ys.take n) a) with
    | none =>
      refine x_ifnullN (tgt := 44) d_Program_unfolds_37 (by decide) ?_
      refine x_iconst (v := 0) d_Program_unfolds_44 (by decide) ?_
      exact x_ireturn d_Program_unfolds_45 rfl (by decide) (by rw [ufs, hpb] at hQ; first | (rw [bI_0 c19, if_neg (by decide)] at hQ; exact hQ) | (rw [bI_n0 c19, if_pos rfl, if_neg c24] at hQ; exact hQ))
    | some rb =>
      refine x_ifnull d_Program_unfolds_37 ?_
      refine x_iconst (v := 1) d_Program_unfolds_40 (by decide) ?_
      refine x_goto (tgt := 45) d_Program_unfolds_41 (by decide) ?_
      exact x_ireturn d_Program_unfolds_45 rfl (by decide) (by rw [ufs, hpb] at hQ; first | (rw [bI_0 c19, if_neg (by decide)] at hQ; exact hQ) | (rw [bI_n0 c19, if_pos rfl, if_neg c24] at hQ; exact hQ))
  · refine x_iload_n d_Program_unfolds_22 rfl rfl ?_
    refine x_iconst (v := -1) d_Program_unfolds_23 (by decide) ?_
    refine x_icmp_eq (tgt := 44) d_Program_unfolds_24 (by decide) (fun c24 => ?_) (fun c24 => ?_)
    · refine x_iconst (v := 0) d_Program_unfolds_44 (by decide) ?_
      exact x_ireturn d_Program_unfolds_45 rfl (by decide) (by rw [ufs, bI_n0 c19, if_pos rfl, if_pos c24] at hQ; exact hQ)
    · first | refine x_aload_n d_Program_unfolds_27 rfl rfl ?_ | refine x_aloadN_n d_Program_unfolds_27 rfl rfl ?_ | refine x_aloadE_n d_Program_unfolds_27 rfl rfl ?_ | refine x_aloadO_n d_Program_unfolds_27 rfl rfl ?_
      first | refine x_aload_n d_Program_unfolds_28 rfl rfl ?_ | refine x_aloadN_n d_Program_unfolds_28 rfl rfl ?_ | refine x_aloadE_n d_Program_unfolds_28 rfl rfl ?_ | refine x_aloadO_n d_Program_unfolds_28 rfl rfl ?_
      refine x_iload_n d_Program_unfolds_29 rfl rfl ?_
      refine x_callV1 d_Program_unfolds_30 k_Row_at l_Program_23 v_Row_at rfl s_Row_at (by assumption) RoomE.m (Nat.le_of_ble_eq_true rfl) (c_Row_at hR ?_)
      rw [atI_nI (by omega)]
      refine x_iload_n d_Program_unfolds_33 rfl rfl ?_
      refine x_callU2 d_Program_unfolds_34 k_SourceProgram_bodyOf l_Program_35 sm_Program_bodyOf ⟨by decide, by decide⟩ (by decide +kernel) (Or.inl dc_Program_bodyOf) v_SourceProgram_bodyOf rfl so_SourceProgram_bodyOf (by assumption) RoomE.m (Nat.le_of_ble_eq_true rfl) (hb _ _ _ ?_)
      cases hpb : pb ((ys.take n).getD a (-1)) (caf cs (ys.take n) a) with
      | none =>
        refine x_ifnullN (tgt := 44) d_Program_unfolds_37 (by decide) ?_
        refine x_iconst (v := 0) d_Program_unfolds_44 (by decide) ?_
        exact x_ireturn d_Program_unfolds_45 rfl (by decide) (by rw [ufs, hpb] at hQ; first | (rw [bI_0 c19, if_neg (by decide)] at hQ; exact hQ) | (rw [bI_n0 c19, if_pos rfl, if_neg c24] at hQ; exact hQ))
      | some rb =>
        refine x_ifnull d_Program_unfolds_37 ?_
        refine x_iconst (v := 1) d_Program_unfolds_40 (by decide) ?_
        refine x_goto (tgt := 45) d_Program_unfolds_41 (by decide) ?_
        exact x_ireturn d_Program_unfolds_45 rfl (by decide) (by rw [ufs, hpb] at hQ; first | (rw [bI_0 c19, if_neg (by decide)] at hQ; exact hQ) | (rw [bI_n0 c19, if_pos rfl, if_neg c24] at hQ; exact hQ))
set_option maxRecDepth 10000 in
set_option maxHeartbeats 1000000 in
theorem c_caf_9 {G : Ctx} {d : Nat} {Γ : List Sh} {σ : Mem} {Q : Option Value → List Sh → Mem → Prop} {q g c r n a : Nat} {ys : List Int32} {pt : Nat → Int32} {cs : Nat → Bool} (hPr : isPr Γ σ 9 q g c) (hG : isSg Γ σ g pt cs) (hR : isRow Γ σ r n ys) (ha : a ≤ 1000000) (hQ : Q (some (.int (caf cs (ys.take n) a))) Γ σ) : Ct G M_Program_constructorAskedFor (d + 1) 0 0 [rf G q, rf G r, .int (nI a)] Γ σ Q := by
  obtain ⟨q1, q2, q3⟩ := id hPr
  obtain ⟨a1, a2, a3, a4, a5, a6, a7⟩ := id hR
  obtain ⟨⟨g1, g2, g3, g4, g5, g6⟩, -⟩ := id hG
  have htl := hR.tl
  refine Ct.of (lv := [some (rf G q), some (rf G r), some (.int (nI a)), none]) (ll := []) rfl rfl (EN.cat (n := 1) ⟨rfl, rfl, rfl, trivial⟩ (Nat.le_of_ble_eq_true rfl)) ?_
  first | refine x_aload_n d_Program_constructorAskedFor_0 rfl rfl ?_ | refine x_aloadN_n d_Program_constructorAskedFor_0 rfl rfl ?_ | refine x_aloadE_n d_Program_constructorAskedFor_0 rfl rfl ?_ | refine x_aloadO_n d_Program_constructorAskedFor_0 rfl rfl ?_
  refine x_iload_n d_Program_constructorAskedFor_1 rfl rfl ?_
  refine x_iconst (v := 1) d_Program_constructorAskedFor_2 (by decide) ?_
  refine x_iadd d_Program_constructorAskedFor_3 ?_
  rw [nI_1]
  refine x_callV1 d_Program_constructorAskedFor_4 k_Row_at l_Program_23 v_Row_at rfl s_Row_at (by assumption) RoomE.m (Nat.le_of_ble_eq_true rfl) (c_Row_at hR ?_)
  rw [atI_nI (by omega)]
  refine x_istore_n d_Program_constructorAskedFor_7 rfl rfl ?_
  first | refine x_aload_n d_Program_constructorAskedFor_8 rfl rfl ?_ | refine x_aloadN_n d_Program_constructorAskedFor_8 rfl rfl ?_ | refine x_aloadE_n d_Program_constructorAskedFor_8 rfl rfl ?_ | refine x_aloadO_n d_Program_constructorAskedFor_8 rfl rfl ?_
  refine x_getR d_Program_constructorAskedFor_9 f_Program_9_9 rfl (by assumption) (by assumption) ?_
  first | refine x_aload_n d_Program_constructorAskedFor_12 rfl rfl ?_ | refine x_aloadN_n d_Program_constructorAskedFor_12 rfl rfl ?_ | refine x_aloadE_n d_Program_constructorAskedFor_12 rfl rfl ?_ | refine x_aloadO_n d_Program_constructorAskedFor_12 rfl rfl ?_
  refine x_iload_n d_Program_constructorAskedFor_13 rfl rfl ?_
  refine x_callV1 d_Program_constructorAskedFor_14 k_Row_at l_Program_23 v_Row_at rfl s_Row_at (by assumption) RoomE.m (Nat.le_of_ble_eq_true rfl) (c_Row_at hR ?_)
  rw [atI_nI (by omega)]
  refine x_callV1 d_Program_constructorAskedFor_17 k_Signs_isCased l_Program_29 v_Signs_isCased rfl s_Signs_isCased (by assumption) RoomE.m (Nat.le_of_ble_eq_true rfl) (c_Signs_isCased hG ?_)
  refine x_if_eq (tgt := 37) d_Program_constructorAskedFor_20 (by decide) (fun c20 => ?_) (fun c20 => ?_)
  · refine x_iconst (v := -1) d_Program_constructorAskedFor_37 (by decide) ?_
    exact x_ireturn d_Program_constructorAskedFor_38 rfl rfl (by rw [caf] at hQ; first | (rw [bI_0 c20, Bool.false_and, if_neg (by decide)] at hQ; exact hQ) | (rw [bI_0 c27, Bool.and_false, if_neg (by decide)] at hQ; exact hQ) | (rw [bI_n0 c20, bI_n0 c27, Bool.and_true, if_pos rfl] at hQ; exact hQ))
  · refine x_iload_n d_Program_constructorAskedFor_23 rfl rfl ?_
    refine x_callSN1 d_Program_constructorAskedFor_24 k_SD_isConstructor ln_Program_76 z_SD_isConstructor RoomE.m (Nat.le_of_ble_eq_true rfl) (c_SD_isConstructor ?_)
    refine x_if_eq (tgt := 37) d_Program_constructorAskedFor_27 (by decide) (fun c27 => ?_) (fun c27 => ?_)
    · refine x_iconst (v := -1) d_Program_constructorAskedFor_37 (by decide) ?_
      exact x_ireturn d_Program_constructorAskedFor_38 rfl rfl (by rw [caf] at hQ; first | (rw [bI_0 c20, Bool.false_and, if_neg (by decide)] at hQ; exact hQ) | (rw [bI_0 c27, Bool.and_false, if_neg (by decide)] at hQ; exact hQ) | (rw [bI_n0 c20, bI_n0 c27, Bool.and_true, if_pos rfl] at hQ; exact hQ))
    · refine x_iload_n d_Program_constructorAskedFor_30 rfl rfl ?_
      refine x_bipush (v := 100) d_Program_constructorAskedFor_31 (by decide) ?_
      refine x_isub d_Program_constructorAskedFor_33 ?_
      refine x_goto (tgt := 38) d_Program_constructorAskedFor_34 (by decide) ?_
      exact x_ireturn d_Program_constructorAskedFor_38 rfl rfl (by rw [caf] at hQ; first | (rw [bI_0 c20, Bool.false_and, if_neg (by decide)] at hQ; exact hQ) | (rw [bI_0 c27, Bool.and_false, if_neg (by decide)] at hQ; exact hQ) | (rw [bI_n0 c20, bI_n0 c27, Bool.and_true, if_pos rfl] at hQ; exact hQ))
set_option maxRecDepth 10000 in
set_option maxHeartbeats 1000000 in
theorem c_unfolds_9 {G : Ctx} {d : Nat} {Γ : List Sh} {σ : Mem} {Q : Option Value → List Sh → Mem → Prop} {q g c r n a : Nat} {ys : List Int32} {pt : Nat → Int32} {cs : Nat → Bool} {pb : Int32 → Int32 → Option Nat} (hPr : isPr Γ σ 9 q g c) (hG : isSg Γ σ g pt cs) (hR : isRow Γ σ r n ys) (ha : a ≤ 1000000) (hb : ∀ (Q2 : Option Value → List Sh → Mem → Prop) (s x : Int32), Q2 (some (ov G (pb s x))) Γ σ → Ct G M_ResidualProgram_bodyOf (d + 2) 0 0 [rf G q, .int s, .int x] Γ σ Q2) (hQ : Q (some (.int (bI (ufs cs pb (ys.take n) a)))) Γ σ) : Ct G M_Program_unfolds (d + 3) 0 0 [rf G q, rf G r, .int (nI a)] Γ σ Q := by
  obtain ⟨q1, q2, q3⟩ := id hPr
  obtain ⟨a1, a2, a3, a4, a5, a6, a7⟩ := id hR
  obtain ⟨⟨g1, g2, g3, g4, g5, g6⟩, -⟩ := id hG
  have htl := hR.tl
  refine Ct.of (lv := [some (rf G q), some (rf G r), some (.int (nI a)), none]) (ll := []) rfl rfl (EN.cat (n := 1) ⟨rfl, rfl, rfl, trivial⟩ (Nat.le_of_ble_eq_true rfl)) ?_
  first | refine x_aload_n d_Program_unfolds_0 rfl rfl ?_ | refine x_aloadN_n d_Program_unfolds_0 rfl rfl ?_ | refine x_aloadE_n d_Program_unfolds_0 rfl rfl ?_ | refine x_aloadO_n d_Program_unfolds_0 rfl rfl ?_
  first | refine x_aload_n d_Program_unfolds_1 rfl rfl ?_ | refine x_aloadN_n d_Program_unfolds_1 rfl rfl ?_ | refine x_aloadE_n d_Program_unfolds_1 rfl rfl ?_ | refine x_aloadO_n d_Program_unfolds_1 rfl rfl ?_
  refine x_iload_n d_Program_unfolds_2 rfl rfl ?_
  refine x_callP2 d_Program_unfolds_3 k_Program_constructorAskedFor l_Program_19 sm_Program_constructorAskedFor ⟨by decide, by decide⟩ (by decide +kernel) (Or.inr ⟨_, _, _, v_Program_constructorAskedFor, (k_Program_constructorAskedFor).1⟩) v_Program_constructorAskedFor rfl pv_Program_constructorAskedFor ins_ResidualProgram rfl rfl (by assumption) RoomE.m (Nat.le_of_ble_eq_true rfl) (c_caf_9 hPr hG hR ha ?_)
  refine x_istore_n d_Program_unfolds_6 rfl rfl ?_
  first | refine x_aload_n d_Program_unfolds_7 rfl rfl ?_ | refine x_aloadN_n d_Program_unfolds_7 rfl rfl ?_ | refine x_aloadE_n d_Program_unfolds_7 rfl rfl ?_ | refine x_aloadO_n d_Program_unfolds_7 rfl rfl ?_
  refine x_getR d_Program_unfolds_8 f_Program_9_9 rfl (by assumption) (by assumption) ?_
  first | refine x_aload_n d_Program_unfolds_11 rfl rfl ?_ | refine x_aloadN_n d_Program_unfolds_11 rfl rfl ?_ | refine x_aloadE_n d_Program_unfolds_11 rfl rfl ?_ | refine x_aloadO_n d_Program_unfolds_11 rfl rfl ?_
  refine x_iload_n d_Program_unfolds_12 rfl rfl ?_
  refine x_callV1 d_Program_unfolds_13 k_Row_at l_Program_23 v_Row_at rfl s_Row_at (by assumption) RoomE.m (Nat.le_of_ble_eq_true rfl) (c_Row_at hR ?_)
  rw [atI_nI (by omega)]
  refine x_callV1 d_Program_unfolds_16 k_Signs_isCased l_Program_29 v_Signs_isCased rfl s_Signs_isCased (by assumption) RoomE.m (Nat.le_of_ble_eq_true rfl) (c_Signs_isCased hG ?_)
  refine x_if_eq (tgt := 27) d_Program_unfolds_19 (by decide) (fun c19 => ?_) (fun c19 => ?_)
  · first | refine x_aload_n d_Program_unfolds_27 rfl rfl ?_ | refine x_aloadN_n d_Program_unfolds_27 rfl rfl ?_ | refine x_aloadE_n d_Program_unfolds_27 rfl rfl ?_ | refine x_aloadO_n d_Program_unfolds_27 rfl rfl ?_
    first | refine x_aload_n d_Program_unfolds_28 rfl rfl ?_ | refine x_aloadN_n d_Program_unfolds_28 rfl rfl ?_ | refine x_aloadE_n d_Program_unfolds_28 rfl rfl ?_ | refine x_aloadO_n d_Program_unfolds_28 rfl rfl ?_
    refine x_iload_n d_Program_unfolds_29 rfl rfl ?_
    refine x_callV1 d_Program_unfolds_30 k_Row_at l_Program_23 v_Row_at rfl s_Row_at (by assumption) RoomE.m (Nat.le_of_ble_eq_true rfl) (c_Row_at hR ?_)
    rw [atI_nI (by omega)]
    refine x_iload_n d_Program_unfolds_33 rfl rfl ?_
    refine x_callU2 d_Program_unfolds_34 k_ResidualProgram_bodyOf l_Program_35 sm_Program_bodyOf ⟨by decide, by decide⟩ (by decide +kernel) (Or.inl dc_Program_bodyOf) v_ResidualProgram_bodyOf rfl so_ResidualProgram_bodyOf (by assumption) RoomE.m (Nat.le_of_ble_eq_true rfl) (hb _ _ _ ?_)
    cases hpb : pb ((ys.take n).getD a (-1)) (caf cs (ys.take n) a) with
    | none =>
      refine x_ifnullN (tgt := 44) d_Program_unfolds_37 (by decide) ?_
      refine x_iconst (v := 0) d_Program_unfolds_44 (by decide) ?_
      exact x_ireturn d_Program_unfolds_45 rfl (by decide) (by rw [ufs, hpb] at hQ; first | (rw [bI_0 c19, if_neg (by decide)] at hQ; exact hQ) | (rw [bI_n0 c19, if_pos rfl, if_neg c24] at hQ; exact hQ))
    | some rb =>
      refine x_ifnull d_Program_unfolds_37 ?_
      refine x_iconst (v := 1) d_Program_unfolds_40 (by decide) ?_
      refine x_goto (tgt := 45) d_Program_unfolds_41 (by decide) ?_
      exact x_ireturn d_Program_unfolds_45 rfl (by decide) (by rw [ufs, hpb] at hQ; first | (rw [bI_0 c19, if_neg (by decide)] at hQ; exact hQ) | (rw [bI_n0 c19, if_pos rfl, if_neg c24] at hQ; exact hQ))
  · refine x_iload_n d_Program_unfolds_22 rfl rfl ?_
    refine x_iconst (v := -1) d_Program_unfolds_23 (by decide) ?_
    refine x_icmp_eq (tgt := 44) d_Program_unfolds_24 (by decide) (fun c24 => ?_) (fun c24 => ?_)
    · refine x_iconst (v := 0) d_Program_unfolds_44 (by decide) ?_
      exact x_ireturn d_Program_unfolds_45 rfl (by decide) (by rw [ufs, bI_n0 c19, if_pos rfl, if_pos c24] at hQ; exact hQ)
    · first | refine x_aload_n d_Program_unfolds_27 rfl rfl ?_ | refine x_aloadN_n d_Program_unfolds_27 rfl rfl ?_ | refine x_aloadE_n d_Program_unfolds_27 rfl rfl ?_ | refine x_aloadO_n d_Program_unfolds_27 rfl rfl ?_
      first | refine x_aload_n d_Program_unfolds_28 rfl rfl ?_ | refine x_aloadN_n d_Program_unfolds_28 rfl rfl ?_ | refine x_aloadE_n d_Program_unfolds_28 rfl rfl ?_ | refine x_aloadO_n d_Program_unfolds_28 rfl rfl ?_
      refine x_iload_n d_Program_unfolds_29 rfl rfl ?_
      refine x_callV1 d_Program_unfolds_30 k_Row_at l_Program_23 v_Row_at rfl s_Row_at (by assumption) RoomE.m (Nat.le_of_ble_eq_true rfl) (c_Row_at hR ?_)
      rw [atI_nI (by omega)]
      refine x_iload_n d_Program_unfolds_33 rfl rfl ?_
      refine x_callU2 d_Program_unfolds_34 k_ResidualProgram_bodyOf l_Program_35 sm_Program_bodyOf ⟨by decide, by decide⟩ (by decide +kernel) (Or.inl dc_Program_bodyOf) v_ResidualProgram_bodyOf rfl so_ResidualProgram_bodyOf (by assumption) RoomE.m (Nat.le_of_ble_eq_true rfl) (hb _ _ _ ?_)
      cases hpb : pb ((ys.take n).getD a (-1)) (caf cs (ys.take n) a) with
      | none =>
        refine x_ifnullN (tgt := 44) d_Program_unfolds_37 (by decide) ?_
        refine x_iconst (v := 0) d_Program_unfolds_44 (by decide) ?_
        exact x_ireturn d_Program_unfolds_45 rfl (by decide) (by rw [ufs, hpb] at hQ; first | (rw [bI_0 c19, if_neg (by decide)] at hQ; exact hQ) | (rw [bI_n0 c19, if_pos rfl, if_neg c24] at hQ; exact hQ))
      | some rb =>
        refine x_ifnull d_Program_unfolds_37 ?_
        refine x_iconst (v := 1) d_Program_unfolds_40 (by decide) ?_
        refine x_goto (tgt := 45) d_Program_unfolds_41 (by decide) ?_
        exact x_ireturn d_Program_unfolds_45 rfl (by decide) (by rw [ufs, hpb] at hQ; first | (rw [bI_0 c19, if_neg (by decide)] at hQ; exact hQ) | (rw [bI_n0 c19, if_pos rfl, if_neg c24] at hQ; exact hQ))
