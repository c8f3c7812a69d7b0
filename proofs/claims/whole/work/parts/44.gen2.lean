/-! Generaliser.takeApart, takeCommon -/
def SB (S : GS) (zu zl : List Int32) : Prop := ∀ k, k < gC S → gU S k < zu.length ∧ gD S k < zl.length
theorem SB.add {S : GS} {zu zl : List Int32} {x : Int32} (h : SB S zu zl) : SB (gAdd S x) zu zl := h
theorem SB.n1 {S : GS} {zu zl : List Int32} {v : Int32} {u l : Nat} (h : SB S zu zl) (hu : u < zu.length) (hl : l < zl.length) : SB (gN1 S v u l) zu zl := by
  have h' : SB (if gC S = 0 then gFv S v else S) zu zl := by split <;> exact h
  unfold gN1 gPush
  generalize (if gC S = 0 then gFv S v else S) = R at h'
  split
  · intro k hk
    have hk' : k < gC R + 1 := hk
    by_cases z : k = gC R
    · subst z
      exact ⟨by simp [gU, upN, gC]; exact hu, by simp [gD, upN, gC]; exact hl⟩
    · have hz : ¬ k = R.2.1 := z
      have := h' k (by omega)
      exact ⟨by simp [gU, upN, hz]; exact this.1, by simp [gD, upN, hz]; exact this.2⟩
  · exact h'
def tApart (P : Int32 → Int32) (zs : List Int32) : Nat → Nat → GS → TS → GS × TS
  | 0, _, S, T => (S, T)
  | k + 1, pl, S, T => tApart P zs k (behind P zs pl) (gAdd (gN1 S (tNew T).2 pl pl) (tNew T).2) (tNew T).1
def tCom (P : Int32 → Int32) (zu zl : List Int32) : Nat → Nat → Nat → GS → TS → GS × TS
  | 0, _, _, S, T => (S, T)
  | f + 1, i, j, S, T => if i < zu.length then (if zu.getD i (-1) = zl.getD j (-1) then tCom P zu zl f (i + 1) (j + 1) (gAdd S (zu.getD i (-1))) T else
      match met S zu zl i (behind P zu i) j (behind P zl j) (gC S) 0 with
      | some k => tCom P zu zl f (behind P zu i) (behind P zl j) (gAdd S (gF S + nI k)) T
      | none => tCom P zu zl f (behind P zu i) (behind P zl j) (gAdd (gN1 S (tNew T).2 i j) (tNew T).2) (tNew T).1) else (S, T)
theorem isGen.add {Γ : List Sh} {σ σ' : Mem} {S : GS} {x : Int32} (h : isGen Γ σ S) (hf : FrI [381, 381 + 1] σ σ') (hr : isRow Γ σ' 381 40 (gL S ++ [x])) : isGen Γ σ' (gAdd S x) := h.row hf hr
theorem isTree.GI {Γ : List Sh} {σ σ' : Mem} {T : TS} (h : isTree Γ σ T) (hf : FrI [381, 381 + 1] σ σ') : isTree Γ σ' T := h.P (hf.P (T := fun a => a = 381 ∨ a = 382) (by simp)) (fun a ha hb => by unfold inT at ha; omega)
theorem FrI.gf {σ σ' : Mem} (hf : FrI [381, 381 + 1] σ σ') : Fr GF σ σ' := hf.fr.mono (by simp [GF])
theorem sg_gf {Γ : List Sh} {σ σ' : Mem} {pt : Nat → Int32} {cs : Nat → Bool} (h : isSg Γ σ 27 pt cs) (hf : Fr GF σ σ') : isSg Γ σ' 27 pt cs := h.Fr hf (by simp [GF]) (by simp [GF]) (by simp [GF])
set_option maxRecDepth 10000 in
set_option maxHeartbeats 1000000 in
theorem c_Generaliser_takeApart {G : Ctx} {d : Nat} {Γ : List Sh} {σ : Mem} {Q : Option Value → List Sh → Mem → Prop} {T : TS} {S : GS} {pt : Nat → Int32} {cs : Nat → Bool} {r n : Nat} {ys : List Int32}  (hT : isTree Γ σ T) (hS : isGen Γ σ S) (hG : isSg Γ σ 27 pt cs) (hR : isRow Γ σ r n ys) (hr : r ∉ GF ∧ r + 1 ∉ GF) (hP : PB (sgP pt)) (hl : (ys.take n).length ≤ 40) (hf : full (nP (sgP pt)) 1 (ys.take n) = true) (hB : SB S (ys.take n) (ys.take n)) (hQ : ∀ σ', isTree Γ σ' (tApart (sgP pt) (ys.take n) (nP (sgP pt) ((ys.take n).getD 0 (-1))) 1 (gAdd S ((ys.take n).getD 0 (-1))) T).2 → isGen Γ σ' (tApart (sgP pt) (ys.take n) (nP (sgP pt) ((ys.take n).getD 0 (-1))) 1 (gAdd S ((ys.take n).getD 0 (-1))) T).1 → SB (tApart (sgP pt) (ys.take n) (nP (sgP pt) ((ys.take n).getD 0 (-1))) 1 (gAdd S ((ys.take n).getD 0 (-1))) T).1 (ys.take n) (ys.take n) → Fr GF σ σ' → Q none Γ σ') : Ct G M_Generaliser_takeApart (d + 2) 0 0 [rf G 380, rf G r] Γ σ Q := by
  obtain ⟨⟨s1, -⟩, -⟩ := id hG
  obtain ⟨⟨a1, a2, a3⟩, ⟨b1, b2, b3, b4, b5⟩, ⟨c1, c2⟩, d1, e1, f1⟩ := id hS
  obtain ⟨t1, -⟩ := id hT
  have hpp := hP.le ((ys.take n).getD 0 (-1))
  have h0l := full_ne (m := 0) hf
  have lp : ∀ (k : Nat) (t : Nat) (S0 : GS) (T0 : TS) (τ : Mem), k + t = nP (sgP pt) ((ys.take n).getD 0 (-1)) → tApart (sgP pt) (ys.take n) k (ends (sgP pt) (ys.take n) 1 t) S0 T0 = tApart (sgP pt) (ys.take n) (nP (sgP pt) ((ys.take n).getD 0 (-1))) 1 (gAdd S ((ys.take n).getD 0 (-1))) T → isTree Γ τ T0 → isGen Γ τ S0 → SB S0 (ys.take n) (ys.take n) → Fr GF σ τ → Wq G M_Generaliser_takeApart (Em G (d + 2) 0 0 Q) 0 0 27 [some (rf G 380), some (rf G r), some (.int (nI (ends (sgP pt) (ys.take n) 1 t))), some (.int (nI k))] [] [] Γ τ := by
    intro k
    induction k with
    | zero =>
      intro t S0 T0 τ h1 h2 T1 S1 B1 f0
      refine x_iload_n d_Generaliser_takeApart_27 rfl rfl ?_
      refine x_if_le (tgt := 60) d_Generaliser_takeApart_28 (by decide) (fun c28 => ?_) (fun c28 => ?_)
      · exact x_return d_Generaliser_takeApart_60 rfl (hQ τ (by rw [← h2]; exact T1) (by rw [← h2]; exact S1) (by rw [← h2]; exact B1) f0)
      · exact absurd ((nI_le0 (by omega)).mpr rfl) c28
    | succ k ih =>
      intro t S0 T0 τ h1 h2 T1 S1 B1 f0
      obtain ⟨⟨a1, a2, a3⟩, ⟨b1, b2, b3, b4, b5⟩, ⟨c1, c2⟩, d1, e1, f1⟩ := id S1
      have hlt := ends_lt hP (by omega) (i := 0) (k := t) (by omega) hf (by omega)
      refine x_iload_n d_Generaliser_takeApart_27 rfl rfl ?_
      refine x_if_le (tgt := 60) d_Generaliser_takeApart_28 (by decide) (fun c28 => ?_) (fun c28 => ?_)
      · exact absurd ((nI_le0 (by omega)).mp c28) (by omega)
      · first | refine x_aload_n d_Generaliser_takeApart_31 rfl rfl ?_ | refine x_aloadN_n d_Generaliser_takeApart_31 rfl rfl ?_ | refine x_aloadE_n d_Generaliser_takeApart_31 rfl rfl ?_ | refine x_aloadO_n d_Generaliser_takeApart_31 rfl rfl ?_
        refine x_getR d_Generaliser_takeApart_32 f_Generaliser_14 rfl (by assumption) (by assumption) ?_
        first | refine x_aload_n d_Generaliser_takeApart_35 rfl rfl ?_ | refine x_aloadN_n d_Generaliser_takeApart_35 rfl rfl ?_ | refine x_aloadE_n d_Generaliser_takeApart_35 rfl rfl ?_ | refine x_aloadO_n d_Generaliser_takeApart_35 rfl rfl ?_
        refine x_iload_n d_Generaliser_takeApart_36 rfl rfl ?_
        refine x_iload_n d_Generaliser_takeApart_37 rfl rfl ?_
        refine x_callV2 d_Generaliser_takeApart_38 k_Generaliser_newVariable l_Generaliser_84 v_Generaliser_newVariable rfl s_Generaliser_newVariable (by assumption) RoomE.m (Nat.le_of_ble_eq_true rfl) (c_Generaliser_newVariable T1 S1 (fun τ2 T2 S2 f2 => ?_))
        refine x_callV1 d_Generaliser_takeApart_41 k_Row_add l_Generaliser_76 v_Row_add rfl s_Row_add (by exact f1.1) RoomE.m (Nat.le_of_ble_eq_true rfl) (c_Row_add S2.2.2.2.2.2 (fun τ3 r3 f3 => ?_))
        first | refine x_aload_n d_Generaliser_takeApart_44 rfl rfl ?_ | refine x_aloadN_n d_Generaliser_takeApart_44 rfl rfl ?_ | refine x_aloadE_n d_Generaliser_takeApart_44 rfl rfl ?_ | refine x_aloadO_n d_Generaliser_takeApart_44 rfl rfl ?_
        refine x_getR d_Generaliser_takeApart_45 f_Generaliser_34 rfl (by assumption) ((S2.add f3 r3).2.1.1) ?_
        first | refine x_aload_n d_Generaliser_takeApart_48 rfl rfl ?_ | refine x_aloadN_n d_Generaliser_takeApart_48 rfl rfl ?_ | refine x_aloadE_n d_Generaliser_takeApart_48 rfl rfl ?_ | refine x_aloadO_n d_Generaliser_takeApart_48 rfl rfl ?_
        refine x_iload_n d_Generaliser_takeApart_49 rfl rfl ?_
        refine x_callV2 d_Generaliser_takeApart_50 k_Signs_behind l_Generaliser_88 v_Signs_behind rfl s_Signs_behind (by assumption) RoomE.m (Nat.le_of_ble_eq_true rfl) (c_Signs_behind (sg_gf hG (f0.tr (f2.tr f3.gf))) (hR.Fr (f0.tr (f2.tr f3.gf)) hr.1 hr.2) (ends_le (by omega) t) ?_)
        refine x_istore_n d_Generaliser_takeApart_53 rfl rfl ?_
        refine x_iinc (v := nI k) d_Generaliser_takeApart_54 rfl (nI_d1 k) rfl ?_
        refine x_goto (tgt := 27) d_Generaliser_takeApart_57 (by decide) ?_
        exact Wq.fg (ih (t + 1) _ _ τ3 (by omega) h2 (T2.GI f3) (S2.add f3 r3) ((B1.n1 hlt.1 hlt.1).add) (f0.tr (f2.tr f3.gf))) ⟨rfl, rfl, rfl, rfl, trivial⟩
  refine Ct.of (lv := [some (rf G 380), some (rf G r), none, none]) (ll := []) rfl rfl (EN.cat (n := 2) ⟨rfl, rfl, trivial⟩ (Nat.le_of_ble_eq_true rfl)) ?_
  first | refine x_aload_n d_Generaliser_takeApart_0 rfl rfl ?_ | refine x_aloadN_n d_Generaliser_takeApart_0 rfl rfl ?_ | refine x_aloadE_n d_Generaliser_takeApart_0 rfl rfl ?_ | refine x_aloadO_n d_Generaliser_takeApart_0 rfl rfl ?_
  refine x_getR d_Generaliser_takeApart_1 f_Generaliser_14 rfl (by assumption) (by assumption) ?_
  first | refine x_aload_n d_Generaliser_takeApart_4 rfl rfl ?_ | refine x_aloadN_n d_Generaliser_takeApart_4 rfl rfl ?_ | refine x_aloadE_n d_Generaliser_takeApart_4 rfl rfl ?_ | refine x_aloadO_n d_Generaliser_takeApart_4 rfl rfl ?_
  refine x_iconst (v := 0) d_Generaliser_takeApart_5 (by decide) ?_
  refine x_callV1 d_Generaliser_takeApart_6 k_Row_at l_Generaliser_50 v_Row_at rfl s_Row_at (by exact hR.1) RoomE.m (Nat.le_of_ble_eq_true rfl) (c_Row_at (i := nI 0) hR ?_)
  rw [atI_nI (by omega)]
  refine x_callV1 d_Generaliser_takeApart_9 k_Row_add l_Generaliser_76 v_Row_add rfl s_Row_add (by exact f1.1) RoomE.m (Nat.le_of_ble_eq_true rfl) (c_Row_add f1 (fun τ2 r2 f2 => ?_))
  refine x_iconst (v := 1) d_Generaliser_takeApart_12 (by decide) ?_
  refine x_istore_n d_Generaliser_takeApart_13 rfl rfl ?_
  first | refine x_aload_n d_Generaliser_takeApart_14 rfl rfl ?_ | refine x_aloadN_n d_Generaliser_takeApart_14 rfl rfl ?_ | refine x_aloadE_n d_Generaliser_takeApart_14 rfl rfl ?_ | refine x_aloadO_n d_Generaliser_takeApart_14 rfl rfl ?_
  refine x_getR d_Generaliser_takeApart_15 f_Generaliser_34 rfl (by assumption) ((hS.add f2 r2).2.1.1) ?_
  first | refine x_aload_n d_Generaliser_takeApart_18 rfl rfl ?_ | refine x_aloadN_n d_Generaliser_takeApart_18 rfl rfl ?_ | refine x_aloadE_n d_Generaliser_takeApart_18 rfl rfl ?_ | refine x_aloadO_n d_Generaliser_takeApart_18 rfl rfl ?_
  refine x_iconst (v := 0) d_Generaliser_takeApart_19 (by decide) ?_
  refine x_callV1 d_Generaliser_takeApart_20 k_Row_at l_Generaliser_50 v_Row_at rfl s_Row_at (by exact hR.1) RoomE.m (Nat.le_of_ble_eq_true rfl) (c_Row_at (i := nI 0) (hR.Fr f2.gf hr.1 hr.2) ?_)
  rw [atI_nI (by omega)]
  refine x_callV1 d_Generaliser_takeApart_23 k_Signs_partsOf l_Generaliser_79 v_Signs_partsOf rfl s_Signs_partsOf (by assumption) RoomE.m (Nat.le_of_ble_eq_true rfl) (c_Signs_partsOf (sg_gf hG f2.gf) ?_)
  rw [(hP.le _).2]
  refine x_istore_n d_Generaliser_takeApart_26 rfl rfl ?_
  exact Wq.fg (lp (nP (sgP pt) ((ys.take n).getD 0 (-1))) 0 _ _ τ2 (by omega) rfl (hT.GI f2) (hS.add f2 r2) hB.add f2.gf) ⟨rfl, rfl, rfl, rfl, trivial⟩
theorem met_lt {S : GS} {zu zl : List Int32} {i ue j le : Nat} : ∀ {f k r : Nat}, met S zu zl i ue j le f k = some r → r < k + f
  | 0, k, r, h => by cases h
  | f + 1, k, r, h => by
    unfold met at h
    split at h
    · cases h; omega
    · have := met_lt h; omega
set_option maxRecDepth 10000 in
set_option maxHeartbeats 1000000 in
theorem c_Generaliser_takeCommon {G : Ctx} {d : Nat} {Γ : List Sh} {σ : Mem} {Q : Option Value → List Sh → Mem → Prop} {T : TS} {S : GS} {pt : Nat → Int32} {cs : Nat → Bool} {ru rl : Nat} {yu yl : List Int32}  (hT : isTree Γ σ T) (hS : isGen Γ σ S) (hG : isSg Γ σ 27 pt cs) (hU : isRow Γ σ ru 40 yu) (hL : isRow Γ σ rl 40 yl) (hru : ru ∉ GF ∧ ru + 1 ∉ GF) (hrl : rl ∉ GF ∧ rl + 1 ∉ GF) (hP : PB (sgP pt)) (hfu : full (nP (sgP pt)) 1 (yu.take 40) = true) (hfl : full (nP (sgP pt)) 1 (yl.take 40) = true) (hB : SB S (yu.take 40) (yl.take 40)) (hQ : ∀ σ', isTree Γ σ' (tCom (sgP pt) (yu.take 40) (yl.take 40) 40 0 0 S T).2 → isGen Γ σ' (tCom (sgP pt) (yu.take 40) (yl.take 40) 40 0 0 S T).1 → SB (tCom (sgP pt) (yu.take 40) (yl.take 40) 40 0 0 S T).1 (yu.take 40) (yl.take 40) → Fr GF σ σ' → Q none Γ σ') : Ct G M_Generaliser_takeCommon (d + 3) 0 0 [rf G 380, rf G ru, rf G rl] Γ σ Q := by
  obtain ⟨⟨s1, -⟩, -⟩ := id hG
  obtain ⟨⟨a1, a2, a3⟩, ⟨b1, b2, b3, b4, b5⟩, ⟨c1, c2⟩, d1, e1, f1⟩ := id hS
  obtain ⟨t1, -⟩ := id hT
  have hlu : (yu.take 40).length ≤ 40 := by rw [List.length_take]; omega
  have hll : (yl.take 40).length ≤ 40 := by rw [List.length_take]; omega
  have hful : ∀ i j, i < (yu.take 40).length → (∃ m, full (nP (sgP pt)) m ((yu.take 40).drop i) = true ∧ full (nP (sgP pt)) m ((yl.take 40).drop j) = true) → ∃ m, full (nP (sgP pt)) (m + 1) ((yu.take 40).drop i) = true ∧ full (nP (sgP pt)) (m + 1) ((yl.take 40).drop j) = true ∧ j < (yl.take 40).length := by
    rintro i j hi ⟨m, h5, h6⟩
    cases m with
    | zero =>
      rw [drop_cons hi] at h5
      cases h5
    | succ m =>
      have := full_ne h6
      rw [List.length_drop] at this
      exact ⟨m, h5, h6, by omega⟩
  have lp : ∀ (k : Nat) (t i j : Nat) (S0 : GS) (T0 : TS) (τ : Mem), t + k = 40 → i ≤ (yu.take 40).length → tCom (sgP pt) (yu.take 40) (yl.take 40) k i j S0 T0 = tCom (sgP pt) (yu.take 40) (yl.take 40) 40 0 0 S T → isTree Γ τ T0 → isGen Γ τ S0 → SB S0 (yu.take 40) (yl.take 40) → Fr GF σ τ → (∃ m, full (nP (sgP pt)) m ((yu.take 40).drop i) = true ∧ full (nP (sgP pt)) m ((yl.take 40).drop j) = true) → Wq G M_Generaliser_takeCommon (Em G (d + 3) 0 0 Q) 0 0 8 [some (rf G 380), some (rf G ru), some (rf G rl), some (.int (nI i)), some (.int (nI j)), some (.int (nI t)), none, none, none] [] [] Γ τ := by
    intro k
    induction k with
    | zero =>
      intro t i j S0 T0 τ h1 h1b h2 T1 S1 B1 f0 hm0
      refine x_iload d_Generaliser_takeCommon_8 rfl ?_
      refine x_bipush (v := 40) d_Generaliser_takeCommon_10 (by decide) ?_
      refine x_icmp_ge (tgt := 139) d_Generaliser_takeCommon_12 (by decide) (fun c12 => ?_) (fun c12 => ?_)
      · exact x_return d_Generaliser_takeCommon_139 rfl (hQ τ (by rw [← h2]; exact T1) (by rw [← h2]; exact S1) (by rw [← h2]; exact B1) f0)
      · exact absurd (nI_le (a := 40) (by omega) (by omega)) c12
    | succ k ih =>
      intro t i j S0 T0 τ h1 h1b h2 T1 S1 B1 f0 hm0
      obtain ⟨⟨a1, a2, a3⟩, ⟨b1, b2, b3, b4, b5⟩, ⟨c1, c2⟩, d1, e1, f1⟩ := id S1
      have U1 := hU.Fr f0 hru.1 hru.2
      have L1 := hL.Fr f0 hrl.1 hrl.2
      have G1 := sg_gf hG f0
      refine x_iload d_Generaliser_takeCommon_8 rfl ?_
      refine x_bipush (v := 40) d_Generaliser_takeCommon_10 (by decide) ?_
      refine x_icmp_ge (tgt := 139) d_Generaliser_takeCommon_12 (by decide) (fun c12 => ?_) (fun c12 => ?_)
      · have := (nI_leI (a := 40) (by decide) (by omega)).mp c12; omega
      · refine x_iload_n d_Generaliser_takeCommon_15 rfl rfl ?_
        first | refine x_aload_n d_Generaliser_takeCommon_16 rfl rfl ?_ | refine x_aloadN_n d_Generaliser_takeCommon_16 rfl rfl ?_ | refine x_aloadE_n d_Generaliser_takeCommon_16 rfl rfl ?_ | refine x_aloadO_n d_Generaliser_takeCommon_16 rfl rfl ?_
        refine x_callV0 d_Generaliser_takeCommon_17 k_Row_length l_Generaliser_92 v_Row_length rfl s_Row_length (by exact hU.1) RoomE.m (Nat.le_of_ble_eq_true rfl) (c_Row_length U1 ?_)
        refine x_icmp_ge (tgt := 139) d_Generaliser_takeCommon_20 (by decide) (fun c20 => ?_) (fun c20 => ?_)
        · have hil : ¬ i < (yu.take 40).length := by rw [nI_leI (by omega) (by omega)] at c20; omega
          exact x_return d_Generaliser_takeCommon_139 rfl (hQ τ (by rw [← h2, tCom, if_neg hil]; exact T1) (by rw [← h2, tCom, if_neg hil]; exact S1) (by rw [← h2, tCom, if_neg hil]; exact B1) f0)
        · have hil : i < (yu.take 40).length := Nat.not_le.mp fun z => c20 (nI_le z (by omega))
          obtain ⟨m, h5, h6, hjl⟩ := hful i j hil hm0
          first | refine x_aload_n d_Generaliser_takeCommon_23 rfl rfl ?_ | refine x_aloadN_n d_Generaliser_takeCommon_23 rfl rfl ?_ | refine x_aloadE_n d_Generaliser_takeCommon_23 rfl rfl ?_ | refine x_aloadO_n d_Generaliser_takeCommon_23 rfl rfl ?_
          refine x_iload_n d_Generaliser_takeCommon_24 rfl rfl ?_
          refine x_callV1 d_Generaliser_takeCommon_25 k_Row_at l_Generaliser_50 v_Row_at rfl s_Row_at (by exact hU.1) RoomE.m (Nat.le_of_ble_eq_true rfl) (c_Row_at U1 ?_)
          rw [atI_nI (by omega)]
          first | refine x_aload_n d_Generaliser_takeCommon_28 rfl rfl ?_ | refine x_aloadN_n d_Generaliser_takeCommon_28 rfl rfl ?_ | refine x_aloadE_n d_Generaliser_takeCommon_28 rfl rfl ?_ | refine x_aloadO_n d_Generaliser_takeCommon_28 rfl rfl ?_
          refine x_iload d_Generaliser_takeCommon_29 rfl ?_
          refine x_callV1 d_Generaliser_takeCommon_31 k_Row_at l_Generaliser_50 v_Row_at rfl s_Row_at (by exact hL.1) RoomE.m (Nat.le_of_ble_eq_true rfl) (c_Row_at L1 ?_)
          rw [atI_nI (by omega)]
          refine x_icmp_ne (tgt := 58) d_Generaliser_takeCommon_34 (by decide) (fun c34 => ?_) (fun c34 => ?_)
          · have hbu := behind_le (P := (sgP pt)) (zs := (yu.take 40)) (i := i) (by omega)
            have hbl := behind_le (P := (sgP pt)) (zs := (yl.take 40)) (i := j) (by omega)
            have hfu : full (nP (sgP pt)) m ((yu.take 40).drop (behind (sgP pt) (yu.take 40) i)) = true := by
              rw [behind_tk hP (by omega), ← List.drop_drop]
              have := (full_tk _ 1 m (by rw [Nat.add_comm]; exact h5)).2
              exact this
            have hfl : full (nP (sgP pt)) m ((yl.take 40).drop (behind (sgP pt) (yl.take 40) j)) = true := by
              rw [behind_tk hP (by omega), ← List.drop_drop]
              have := (full_tk _ 1 m (by rw [Nat.add_comm]; exact h6)).2
              exact this
            first | refine x_aload_n d_Generaliser_takeCommon_58 rfl rfl ?_ | refine x_aloadN_n d_Generaliser_takeCommon_58 rfl rfl ?_ | refine x_aloadE_n d_Generaliser_takeCommon_58 rfl rfl ?_ | refine x_aloadO_n d_Generaliser_takeCommon_58 rfl rfl ?_
            refine x_getR d_Generaliser_takeCommon_59 f_Generaliser_34 rfl (by assumption) (by assumption) ?_
            first | refine x_aload_n d_Generaliser_takeCommon_62 rfl rfl ?_ | refine x_aloadN_n d_Generaliser_takeCommon_62 rfl rfl ?_ | refine x_aloadE_n d_Generaliser_takeCommon_62 rfl rfl ?_ | refine x_aloadO_n d_Generaliser_takeCommon_62 rfl rfl ?_
            refine x_iload_n d_Generaliser_takeCommon_63 rfl rfl ?_
            refine x_callV2 d_Generaliser_takeCommon_64 k_Signs_behind l_Generaliser_88 v_Signs_behind rfl s_Signs_behind (by assumption) RoomE.m (Nat.le_of_ble_eq_true rfl) (c_Signs_behind G1 U1 (by omega) ?_)
            refine x_istore d_Generaliser_takeCommon_67 rfl ?_
            first | refine x_aload_n d_Generaliser_takeCommon_69 rfl rfl ?_ | refine x_aloadN_n d_Generaliser_takeCommon_69 rfl rfl ?_ | refine x_aloadE_n d_Generaliser_takeCommon_69 rfl rfl ?_ | refine x_aloadO_n d_Generaliser_takeCommon_69 rfl rfl ?_
            refine x_getR d_Generaliser_takeCommon_70 f_Generaliser_34 rfl (by assumption) (by assumption) ?_
            first | refine x_aload_n d_Generaliser_takeCommon_73 rfl rfl ?_ | refine x_aloadN_n d_Generaliser_takeCommon_73 rfl rfl ?_ | refine x_aloadE_n d_Generaliser_takeCommon_73 rfl rfl ?_ | refine x_aloadO_n d_Generaliser_takeCommon_73 rfl rfl ?_
            refine x_iload d_Generaliser_takeCommon_74 rfl ?_
            refine x_callV2 d_Generaliser_takeCommon_76 k_Signs_behind l_Generaliser_88 v_Signs_behind rfl s_Signs_behind (by assumption) RoomE.m (Nat.le_of_ble_eq_true rfl) (c_Signs_behind G1 L1 (by omega) ?_)
            refine x_istore d_Generaliser_takeCommon_79 rfl ?_
            first | refine x_aload_n d_Generaliser_takeCommon_81 rfl rfl ?_ | refine x_aloadN_n d_Generaliser_takeCommon_81 rfl rfl ?_ | refine x_aloadE_n d_Generaliser_takeCommon_81 rfl rfl ?_ | refine x_aloadO_n d_Generaliser_takeCommon_81 rfl rfl ?_
            first | refine x_aload_n d_Generaliser_takeCommon_82 rfl rfl ?_ | refine x_aloadN_n d_Generaliser_takeCommon_82 rfl rfl ?_ | refine x_aloadE_n d_Generaliser_takeCommon_82 rfl rfl ?_ | refine x_aloadO_n d_Generaliser_takeCommon_82 rfl rfl ?_
            refine x_iload_n d_Generaliser_takeCommon_83 rfl rfl ?_
            refine x_iload d_Generaliser_takeCommon_84 rfl ?_
            first | refine x_aload_n d_Generaliser_takeCommon_86 rfl rfl ?_ | refine x_aloadN_n d_Generaliser_takeCommon_86 rfl rfl ?_ | refine x_aloadE_n d_Generaliser_takeCommon_86 rfl rfl ?_ | refine x_aloadO_n d_Generaliser_takeCommon_86 rfl rfl ?_
            refine x_iload d_Generaliser_takeCommon_87 rfl ?_
            refine x_iload d_Generaliser_takeCommon_89 rfl ?_
            refine x_callV6 d_Generaliser_takeCommon_91 k_Generaliser_metBefore l_Generaliser_96 v_Generaliser_metBefore rfl s_Generaliser_metBefore (by assumption) RoomE.m (Nat.le_of_ble_eq_true rfl) (c_Generaliser_metBefore S1 U1 L1 (by omega) (by omega) (by omega) (by omega) (fun k hk => by have := B1 k hk; omega) ?_)
            rcases hm : met S0 (yu.take 40) (yl.take 40) i (behind (sgP pt) (yu.take 40) i) j (behind (sgP pt) (yl.take 40) j) (gC S0) 0 with _ | k9
            · refine x_istore d_Generaliser_takeCommon_94 rfl ?_
              first | refine x_aload_n d_Generaliser_takeCommon_96 rfl rfl ?_ | refine x_aloadN_n d_Generaliser_takeCommon_96 rfl rfl ?_ | refine x_aloadE_n d_Generaliser_takeCommon_96 rfl rfl ?_ | refine x_aloadO_n d_Generaliser_takeCommon_96 rfl rfl ?_
              refine x_getR d_Generaliser_takeCommon_97 f_Generaliser_14 rfl (by assumption) (by assumption) ?_
              refine x_iload d_Generaliser_takeCommon_100 rfl ?_
              refine x_iconst (v := -1) d_Generaliser_takeCommon_102 (by decide) ?_
              refine x_icmp_ne (tgt := 116) d_Generaliser_takeCommon_103 (by decide) (fun c103 => ?_) (fun c103 => ?_)
              · exact absurd rfl c103
              · first | refine x_aload_n d_Generaliser_takeCommon_106 rfl rfl ?_ | refine x_aloadN_n d_Generaliser_takeCommon_106 rfl rfl ?_ | refine x_aloadE_n d_Generaliser_takeCommon_106 rfl rfl ?_ | refine x_aloadO_n d_Generaliser_takeCommon_106 rfl rfl ?_
                refine x_iload_n d_Generaliser_takeCommon_107 rfl rfl ?_
                refine x_iload d_Generaliser_takeCommon_108 rfl ?_
                refine x_callV2 d_Generaliser_takeCommon_110 k_Generaliser_newVariable l_Generaliser_84 v_Generaliser_newVariable rfl s_Generaliser_newVariable (by assumption) RoomE.m (Nat.le_of_ble_eq_true rfl) (c_Generaliser_newVariable T1 S1 (fun τ2 T2 S2 f2 => ?_))
                refine x_goto (tgt := 123) d_Generaliser_takeCommon_113 (by decide) ?_
                refine x_callV1 d_Generaliser_takeCommon_123 k_Row_add l_Generaliser_76 v_Row_add rfl s_Row_add (by exact f1.1) RoomE.m (Nat.le_of_ble_eq_true rfl) (c_Row_add S2.2.2.2.2.2 (fun τ3 r3 f3 => ?_))
                refine x_iload d_Generaliser_takeCommon_126 rfl ?_
                refine x_istore_n d_Generaliser_takeCommon_128 rfl rfl ?_
                refine x_iload d_Generaliser_takeCommon_129 rfl ?_
                refine x_istore d_Generaliser_takeCommon_131 rfl ?_
                refine x_iinc (v := nI (t + 1)) d_Generaliser_takeCommon_133 rfl (nI_1 t) rfl ?_
                refine x_goto (tgt := 8) d_Generaliser_takeCommon_136 (by decide) ?_
                exact Wq.fg (ih (t + 1) (behind (sgP pt) (yu.take 40) i) (behind (sgP pt) (yl.take 40) j) _ _ τ3 (by omega) (by omega) (by rw [tCom, if_pos hil, if_neg c34, hm] at h2; exact h2) (T2.GI f3) (S2.add f3 r3) ((B1.n1 hil hjl).add) (f0.tr (f2.tr f3.gf)) ⟨m, hfu, hfl⟩) ⟨rfl, rfl, rfl, rfl, rfl, rfl, trivial⟩
            · have hk9 := met_lt hm
              refine x_istore d_Generaliser_takeCommon_94 rfl ?_
              first | refine x_aload_n d_Generaliser_takeCommon_96 rfl rfl ?_ | refine x_aloadN_n d_Generaliser_takeCommon_96 rfl rfl ?_ | refine x_aloadE_n d_Generaliser_takeCommon_96 rfl rfl ?_ | refine x_aloadO_n d_Generaliser_takeCommon_96 rfl rfl ?_
              refine x_getR d_Generaliser_takeCommon_97 f_Generaliser_14 rfl (by assumption) (by assumption) ?_
              refine x_iload d_Generaliser_takeCommon_100 rfl ?_
              refine x_iconst (v := -1) d_Generaliser_takeCommon_102 (by decide) ?_
              refine x_icmp_ne (tgt := 116) d_Generaliser_takeCommon_103 (by decide) (fun c103 => ?_) (fun c103 => ?_)
              · first | refine x_aload_n d_Generaliser_takeCommon_116 rfl rfl ?_ | refine x_aloadN_n d_Generaliser_takeCommon_116 rfl rfl ?_ | refine x_aloadE_n d_Generaliser_takeCommon_116 rfl rfl ?_ | refine x_aloadO_n d_Generaliser_takeCommon_116 rfl rfl ?_
                refine x_getI d_Generaliser_takeCommon_117 f_Generaliser_31 rfl (by assumption) ?_
                refine x_iload d_Generaliser_takeCommon_120 rfl ?_
                rw [d1]
                refine x_iadd d_Generaliser_takeCommon_122 ?_
                refine x_callV1 d_Generaliser_takeCommon_123 k_Row_add l_Generaliser_76 v_Row_add rfl s_Row_add (by exact f1.1) RoomE.m (Nat.le_of_ble_eq_true rfl) (c_Row_add f1 (fun τ3 r3 f3 => ?_))
                refine x_iload d_Generaliser_takeCommon_126 rfl ?_
                refine x_istore_n d_Generaliser_takeCommon_128 rfl rfl ?_
                refine x_iload d_Generaliser_takeCommon_129 rfl ?_
                refine x_istore d_Generaliser_takeCommon_131 rfl ?_
                refine x_iinc (v := nI (t + 1)) d_Generaliser_takeCommon_133 rfl (nI_1 t) rfl ?_
                refine x_goto (tgt := 8) d_Generaliser_takeCommon_136 (by decide) ?_
                exact Wq.fg (ih (t + 1) (behind (sgP pt) (yu.take 40) i) (behind (sgP pt) (yl.take 40) j) _ _ τ3 (by omega) (by omega) (by rw [tCom, if_pos hil, if_neg c34, hm] at h2; exact h2) (T1.GI f3) (S1.add f3 r3) B1.add (f0.tr f3.gf) ⟨m, hfu, hfl⟩) ⟨rfl, rfl, rfl, rfl, rfl, rfl, trivial⟩
              · exact absurd c103 (by show ¬ nI k9 = -1; intro z; have := nI_nneg k9 (by omega); rw [z] at this; exact this (by decide))
          · first | refine x_aload_n d_Generaliser_takeCommon_37 rfl rfl ?_ | refine x_aloadN_n d_Generaliser_takeCommon_37 rfl rfl ?_ | refine x_aloadE_n d_Generaliser_takeCommon_37 rfl rfl ?_ | refine x_aloadO_n d_Generaliser_takeCommon_37 rfl rfl ?_
            refine x_getR d_Generaliser_takeCommon_38 f_Generaliser_14 rfl (by assumption) (by assumption) ?_
            first | refine x_aload_n d_Generaliser_takeCommon_41 rfl rfl ?_ | refine x_aloadN_n d_Generaliser_takeCommon_41 rfl rfl ?_ | refine x_aloadE_n d_Generaliser_takeCommon_41 rfl rfl ?_ | refine x_aloadO_n d_Generaliser_takeCommon_41 rfl rfl ?_
            refine x_iload_n d_Generaliser_takeCommon_42 rfl rfl ?_
            refine x_callV1 d_Generaliser_takeCommon_43 k_Row_at l_Generaliser_50 v_Row_at rfl s_Row_at (by exact hU.1) RoomE.m (Nat.le_of_ble_eq_true rfl) (c_Row_at U1 ?_)
            rw [atI_nI (by omega)]
            refine x_callV1 d_Generaliser_takeCommon_46 k_Row_add l_Generaliser_76 v_Row_add rfl s_Row_add (by exact f1.1) RoomE.m (Nat.le_of_ble_eq_true rfl) (c_Row_add f1 (fun τ3 r3 f3 => ?_))
            refine x_iinc (v := nI (i + 1)) d_Generaliser_takeCommon_49 rfl (nI_1 i) rfl ?_
            refine x_iinc (v := nI (j + 1)) d_Generaliser_takeCommon_52 rfl (nI_1 j) rfl ?_
            refine x_goto (tgt := 133) d_Generaliser_takeCommon_55 (by decide) ?_
            refine x_iinc (v := nI (t + 1)) d_Generaliser_takeCommon_133 rfl (nI_1 t) rfl ?_
            refine x_goto (tgt := 8) d_Generaliser_takeCommon_136 (by decide) ?_
            exact Wq.fg (ih (t + 1) (i + 1) (j + 1) _ _ τ3 (by omega) (by omega) (by rw [tCom, if_pos hil, if_pos c34] at h2; exact h2) (T1.GI f3) (S1.add f3 r3) B1.add (f0.tr f3.gf) ⟨m + nP (sgP pt) ((yu.take 40).getD i (-1)), by rw [drop_cons hil] at h5; exact h5, by rw [drop_cons hjl] at h6; rw [c34]; exact h6⟩) ⟨rfl, rfl, rfl, rfl, rfl, rfl, trivial⟩
  refine Ct.of (lv := [some (rf G 380), some (rf G ru), some (rf G rl), none, none, none, none, none, none]) (ll := []) rfl rfl (EN.cat (n := 6) ⟨rfl, rfl, rfl, trivial⟩ (Nat.le_of_ble_eq_true rfl)) ?_
  refine x_iconst (v := 0) d_Generaliser_takeCommon_0 (by decide) ?_
  refine x_istore_n d_Generaliser_takeCommon_1 rfl rfl ?_
  refine x_iconst (v := 0) d_Generaliser_takeCommon_2 (by decide) ?_
  refine x_istore d_Generaliser_takeCommon_3 rfl ?_
  refine x_iconst (v := 0) d_Generaliser_takeCommon_5 (by decide) ?_
  refine x_istore d_Generaliser_takeCommon_6 rfl ?_
  exact Wq.fg (lp 40 0 0 0 S T σ (by omega) (by omega) rfl hT hS hB Fr.rf ⟨1, hfu, hfl⟩) ⟨rfl, rfl, rfl, by rw [nI_0], by rw [nI_0], by rw [nI_0], trivial⟩
