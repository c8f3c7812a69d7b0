/-! SuperDriver$Generaliser at cell 380: (general, how many, the first variable, the starts in the upper and in the lower term) -/
abbrev GS : Type := List Int32 × Nat × Int32 × (Nat → Nat) × (Nat → Nat)
def gL (S : GS) : List Int32 := S.1
def gC (S : GS) : Nat := S.2.1
def gF (S : GS) : Int32 := S.2.2.1
def gU (S : GS) : Nat → Nat := S.2.2.2.1
def gD (S : GS) : Nat → Nat := S.2.2.2.2
def inG (a : Nat) : Prop := 380 ≤ a ∧ a ≤ 384
def isGen (Γ : List Sh) (σ : Mem) (S : GS) : Prop :=
  (Γ[380]? = some (0, 8) ∧ Γ[383]? = some (1, 40) ∧ Γ[384]? = some (1, 40)) ∧
  (σ.2.1 380 0 = some 27 ∧ σ.2.1 380 1 = some 131 ∧ σ.2.1 380 2 = some 381 ∧ σ.2.1 380 3 = some 383 ∧ σ.2.1 380 4 = some 384) ∧
  (σ.1 380 5 = nI (gC S) ∧ gC S ≤ 40) ∧ σ.1 380 6 = gF S ∧ (∀ k, k < gC S → σ.1 383 k = nI (gU S k) ∧ σ.1 384 k = nI (gD S k)) ∧ isRow Γ σ 381 40 (gL S)
theorem isGen.P {Γ : List Sh} {σ σ' : Mem} {S : GS} {X : Nat → Prop} (h : isGen Γ σ S) (hf : FrP X σ σ') (h0 : ∀ a, inG a → ¬ X a) : isGen Γ σ' S := by
  obtain ⟨a, b, c, d, e, f⟩ := h
  have h1 := hf 380 (h0 _ ⟨by omega, by omega⟩)
  have h2 := hf 383 (h0 _ ⟨by omega, by omega⟩)
  have h3 := hf 384 (h0 _ ⟨by omega, by omega⟩)
  exact ⟨a, by rw [h1.2.1]; exact b, by rw [h1.1]; exact c, by rw [h1.1]; exact d, by rw [h2.1, h3.1]; exact e, f.P hf (h0 _ ⟨by omega, by omega⟩) (h0 _ ⟨by omega, by omega⟩)⟩
def gAdd (S : GS) (x : Int32) : GS := (S.1 ++ [x], S.2)
def gFv (S : GS) (v : Int32) : GS := (S.1, S.2.1, v, S.2.2.2)
def gPush (S : GS) (u l : Nat) : GS := if gC S < 40 then (S.1, S.2.1 + 1, S.2.2.1, upN S.2.2.2.1 S.2.1 u, upN S.2.2.2.2 S.2.1 l) else S
def gN1 (S : GS) (v : Int32) (u l : Nat) : GS := gPush (if gC S = 0 then gFv S v else S) u l
theorem isGen.fv {Γ : List Sh} {σ : Mem} {S : GS} {v : Int32} (h : isGen Γ σ S) : isGen Γ (wI σ 380 6 v) (gFv S v) := by
  obtain ⟨a, b, c, d, e, f⟩ := h
  have ff : FrI [380] σ (wI σ 380 6 v) := FrI.rf.put (by simp)
  exact ⟨a, b, by rw [wI_j (by decide)]; exact c, wI_s, by rw [wI_o (by decide), wI_o (by decide)]; exact e, f.fr ff (by simp) (by simp)⟩
theorem isGen.push {Γ : List Sh} {σ : Mem} {S : GS} {u l : Nat} (h : isGen Γ σ S) (hc : gC S < 40) : isGen Γ (wI (wI (wI σ 383 (gC S) (nI u)) 384 (gC S) (nI l)) 380 5 (nI (gC S) + 1)) (gPush S u l) := by
  obtain ⟨a, b, c, d, e, f⟩ := h
  have ff : FrI [380, 383, 384] σ (wI (wI (wI σ 383 (gC S) (nI u)) 384 (gC S) (nI l)) 380 5 (nI (gC S) + 1)) := ((FrI.rf.put (by simp)).put (by simp)).put (by simp)
  rw [gPush, if_pos hc]
  refine ⟨a, b, ⟨by rw [wI_s, nI_1]; rfl, hc⟩, by rw [wI_j (by decide), wI_o (by decide), wI_o (by decide)]; exact d, fun k hk => ?_, f.fr ff (by simp) (by simp)⟩
  have hk' : k < gC S + 1 := hk
  rw [wI_o (by decide), wI_o (b := 384) (a := 380) (by decide), wI_o (b := 383) (a := 384) (by decide)]
  by_cases z : k = gC S
  · subst z
    rw [wI_s, wI_s]
    exact ⟨by simp [gU, upN, gC], by simp [gD, upN, gC]⟩
  · rw [wI_j z, wI_j z, wI_o (by decide)]
    have hz : ¬ k = S.2.1 := z
    have := e k (by omega)
    exact ⟨by simp [gU, upN, hz]; exact this.1, by simp [gD, upN, hz]; exact this.2⟩
theorem isGen.row {Γ : List Sh} {σ σ' : Mem} {S : GS} {ys : List Int32} (h : isGen Γ σ S) (hf : FrI [381, 382] σ σ') (hr : isRow Γ σ' 381 40 ys) : isGen Γ σ' (ys, S.2) := by
  obtain ⟨a, b, c, d, e, f⟩ := h
  exact ⟨a, by rw [hf.1]; exact b, by rw [hf.2 _ (by simp)]; exact c, by rw [hf.2 _ (by simp)]; exact d, by rw [hf.2 _ (by simp), hf.2 _ (by simp)]; exact e, hr⟩
def GF : List Nat := [131, 380, 381, 382, 383, 384]
set_option maxRecDepth 10000 in
set_option maxHeartbeats 1000000 in
theorem c_Generaliser_newVariable {G : Ctx} {d : Nat} {Γ : List Sh} {σ : Mem} {Q : Option Value → List Sh → Mem → Prop} {T : TS} {S : GS} {u l : Nat}  (hT : isTree Γ σ T) (hS : isGen Γ σ S) (hQ : ∀ σ', isTree Γ σ' (tNew T).1 → isGen Γ σ' (gN1 S (tNew T).2 u l) → Fr GF σ σ' → Q (some (.int (tNew T).2)) Γ σ') : Ct G M_Generaliser_newVariable (d + 1) 0 0 [rf G 380, .int (nI u), .int (nI l)] Γ σ Q := by
  obtain ⟨⟨a1, a2, a3⟩, ⟨b1, b2, b3, b4, b5⟩, ⟨c1, c2⟩, d1, e1, f1⟩ := id hS
  obtain ⟨t1, t2, t3, -⟩ := id hT
  have k20 : ∀ (τ2 : Mem) (S2 : GS), isTree Γ τ2 (tNew T).1 → isGen Γ τ2 S2 → Fr GF σ τ2 → gPush S2 u l = gN1 S (tNew T).2 u l → Wq G M_Generaliser_newVariable (Em G (d + 1) 0 0 Q) 0 0 20 [some (rf G 380), some (.int (nI u)), some (.int (nI l)), some (.int (tNew T).2)] [] [] Γ τ2 := by
    intro τ2 S2 T2 S2g f2 h2
    obtain ⟨⟨a1, a2, a3⟩, ⟨b1, b2, b3, b4, b5⟩, ⟨c1, c2⟩, d1, e1, f1⟩ := id S2g
    first | refine x_aload_n d_Generaliser_newVariable_20 rfl rfl ?_ | refine x_aloadN_n d_Generaliser_newVariable_20 rfl rfl ?_ | refine x_aloadE_n d_Generaliser_newVariable_20 rfl rfl ?_ | refine x_aloadO_n d_Generaliser_newVariable_20 rfl rfl ?_
    refine x_getI d_Generaliser_newVariable_21 f_Generaliser_27 rfl (by assumption) ?_
    refine x_if_lt (tgt := 66) d_Generaliser_newVariable_24 (by decide) (fun c24 => ?_) (fun c24 => ?_)
    · exact absurd c24 (by rw [c1]; exact nI_nneg _ (by omega))
    · first | refine x_aload_n d_Generaliser_newVariable_27 rfl rfl ?_ | refine x_aloadN_n d_Generaliser_newVariable_27 rfl rfl ?_ | refine x_aloadE_n d_Generaliser_newVariable_27 rfl rfl ?_ | refine x_aloadO_n d_Generaliser_newVariable_27 rfl rfl ?_
      refine x_getI d_Generaliser_newVariable_28 f_Generaliser_27 rfl (by assumption) ?_
      refine x_bipush (v := 40) d_Generaliser_newVariable_31 (by decide) ?_
      refine x_icmp_ge (tgt := 66) d_Generaliser_newVariable_33 (by decide) (fun c33 => ?_) (fun c33 => ?_)
      · refine x_iload_n d_Generaliser_newVariable_66 rfl rfl ?_
        first
        | exact x_ireturn d_Generaliser_newVariable_67 rfl rfl (hQ τ2 T2 (by rw [← h2, gPush, if_neg (by rw [c1] at c33; have := (nI_leI (a := 40) (by decide) (by omega)).mp c33; omega)]; exact S2g) f2)
        | exact x_ireturn d_Generaliser_newVariable_67 rfl rfl (by
            simp only [wI_o (b := 380) (a := 383) (by decide), wI_o (b := 380) (a := 384) (by decide)]
            rw [c1, nI_clamp (by omega)]
            have hp := S2g.push (u := u) (l := l) hfull
            rw [h2] at hp
            refine hQ _ (T2.P (S := fun a => a = 380 ∨ a = 383 ∨ a = 384) ((((FrP.rf).wI (by simp)).wI (by simp)).wI (by simp)) (fun a ha hb => by unfold inT at ha; omega)) hp (((f2.wI (by simp [GF])).wI (by simp [GF])).wI (by simp [GF])))
      · have hfull : gC S2 < 40 := Nat.not_le.mp fun z => c33 (by rw [c1]; exact nI_le (a := 40) z (by omega))
        first | refine x_aload_n d_Generaliser_newVariable_36 rfl rfl ?_ | refine x_aloadN_n d_Generaliser_newVariable_36 rfl rfl ?_ | refine x_aloadE_n d_Generaliser_newVariable_36 rfl rfl ?_ | refine x_aloadO_n d_Generaliser_newVariable_36 rfl rfl ?_
        refine x_getR d_Generaliser_newVariable_37 f_Generaliser_20 rfl (by assumption) (by assumption) ?_
        first | refine x_aload_n d_Generaliser_newVariable_40 rfl rfl ?_ | refine x_aloadN_n d_Generaliser_newVariable_40 rfl rfl ?_ | refine x_aloadE_n d_Generaliser_newVariable_40 rfl rfl ?_ | refine x_aloadO_n d_Generaliser_newVariable_40 rfl rfl ?_
        refine x_getI d_Generaliser_newVariable_41 f_Generaliser_27 rfl (by assumption) ?_
        refine x_iload_n d_Generaliser_newVariable_44 rfl rfl ?_
        refine x_iast d_Generaliser_newVariable_45 (by assumption) (by rw [c1]; exact vp_in_nI hfull (by decide)) ?_
        first | refine x_aload_n d_Generaliser_newVariable_46 rfl rfl ?_ | refine x_aloadN_n d_Generaliser_newVariable_46 rfl rfl ?_ | refine x_aloadE_n d_Generaliser_newVariable_46 rfl rfl ?_ | refine x_aloadO_n d_Generaliser_newVariable_46 rfl rfl ?_
        refine x_getR d_Generaliser_newVariable_47 f_Generaliser_24 rfl (by assumption) (by assumption) ?_
        first | refine x_aload_n d_Generaliser_newVariable_50 rfl rfl ?_ | refine x_aloadN_n d_Generaliser_newVariable_50 rfl rfl ?_ | refine x_aloadE_n d_Generaliser_newVariable_50 rfl rfl ?_ | refine x_aloadO_n d_Generaliser_newVariable_50 rfl rfl ?_
        refine x_getI d_Generaliser_newVariable_51 f_Generaliser_27 rfl (by assumption) ?_
        refine x_iload_n d_Generaliser_newVariable_54 rfl rfl ?_
        refine x_iast d_Generaliser_newVariable_55 (by assumption) (by rw [wI_o (by decide), c1]; exact vp_in_nI hfull (by decide)) ?_
        first | refine x_aload_n d_Generaliser_newVariable_56 rfl rfl ?_ | refine x_aloadN_n d_Generaliser_newVariable_56 rfl rfl ?_ | refine x_aloadE_n d_Generaliser_newVariable_56 rfl rfl ?_ | refine x_aloadO_n d_Generaliser_newVariable_56 rfl rfl ?_
        refine x_dup d_Generaliser_newVariable_57 rfl ?_
        refine x_getI d_Generaliser_newVariable_58 f_Generaliser_27 rfl (by assumption) ?_
        refine x_iconst (v := 1) d_Generaliser_newVariable_61 (by decide) ?_
        refine x_iadd d_Generaliser_newVariable_62 ?_
        refine x_putI d_Generaliser_newVariable_63 (w_Generaliser_m_27 _) rfl (by first | rfl | decide) (by first | rfl | decide) (by assumption) ?_
        refine x_iload_n d_Generaliser_newVariable_66 rfl rfl ?_
        first
        | exact x_ireturn d_Generaliser_newVariable_67 rfl rfl (hQ τ2 T2 (by rw [← h2, gPush, if_neg (by rw [c1] at c33; have := (nI_leI (a := 40) (by decide) (by omega)).mp c33; omega)]; exact S2g) f2)
        | exact x_ireturn d_Generaliser_newVariable_67 rfl rfl (by
            simp only [wI_o (b := 380) (a := 383) (by decide), wI_o (b := 380) (a := 384) (by decide)]
            rw [c1, nI_clamp (by omega)]
            have hp := S2g.push (u := u) (l := l) hfull
            rw [h2] at hp
            refine hQ _ (T2.P (S := fun a => a = 380 ∨ a = 383 ∨ a = 384) ((((FrP.rf).wI (by simp)).wI (by simp)).wI (by simp)) (fun a ha hb => by unfold inT at ha; omega)) hp (((f2.wI (by simp [GF])).wI (by simp [GF])).wI (by simp [GF])))
  refine Ct.of (lv := [some (rf G 380), some (.int (nI u)), some (.int (nI l)), none]) (ll := []) rfl rfl (EN.cat (n := 1) ⟨rfl, rfl, rfl, trivial⟩ (Nat.le_of_ble_eq_true rfl)) ?_
  first | refine x_aload_n d_Generaliser_newVariable_0 rfl rfl ?_ | refine x_aloadN_n d_Generaliser_newVariable_0 rfl rfl ?_ | refine x_aloadE_n d_Generaliser_newVariable_0 rfl rfl ?_ | refine x_aloadO_n d_Generaliser_newVariable_0 rfl rfl ?_
  refine x_getR d_Generaliser_newVariable_1 f_Generaliser_38 rfl (by assumption) (by assumption) ?_
  refine x_callV0 d_Generaliser_newVariable_4 k_Tree_newVariable l_Generaliser_104 v_Tree_newVariable rfl s_Tree_newVariable (by assumption) RoomE.m (Nat.le_of_ble_eq_true rfl) (c_Tree_newVariable hT (fun τ T1 f0 => ?_))
  have S1 := hS.P (f0.P (T := fun a => a = 131) (by simp)) (fun a ha hb => by unfold inG at ha; omega)
  refine x_istore_n d_Generaliser_newVariable_7 rfl rfl ?_
  first | refine x_aload_n d_Generaliser_newVariable_8 rfl rfl ?_ | refine x_aloadN_n d_Generaliser_newVariable_8 rfl rfl ?_ | refine x_aloadE_n d_Generaliser_newVariable_8 rfl rfl ?_ | refine x_aloadO_n d_Generaliser_newVariable_8 rfl rfl ?_
  refine x_getI d_Generaliser_newVariable_9 f_Generaliser_27 rfl (by assumption) ?_
  rw [show τ.1 380 5 = nI (gC S) from S1.2.2.1.1]
  refine x_if_ne (tgt := 20) d_Generaliser_newVariable_12 (by decide) (fun c12 => ?_) (fun c12 => ?_)
  · exact k20 τ S T1 S1 (f0.mono (by simp [GF])) (by rw [gN1, if_neg (fun z => c12 (by rw [z, nI_0]))])
  · first | refine x_aload_n d_Generaliser_newVariable_15 rfl rfl ?_ | refine x_aloadN_n d_Generaliser_newVariable_15 rfl rfl ?_ | refine x_aloadE_n d_Generaliser_newVariable_15 rfl rfl ?_ | refine x_aloadO_n d_Generaliser_newVariable_15 rfl rfl ?_
    refine x_iload_n d_Generaliser_newVariable_16 rfl rfl ?_
    refine x_putI d_Generaliser_newVariable_17 (w_Generaliser_m_31 _) rfl (by first | rfl | decide) (by first | rfl | decide) (by assumption) ?_
    exact k20 _ _ (T1.P (S := fun a => a = 380) (FrP.rf.wI rfl) (fun a ha hb => by unfold inT at ha; omega)) S1.fv ((f0.mono (by simp [GF])).wI (by simp [GF])) (by rw [gN1, if_pos (by rw [← nI_0] at c12; exact (nI_eq (by omega) (by omega)).mp c12)])
/-- the signs from f to t are those from e on -/
def rep (zs : List Int32) (f t e : Nat) : Bool := decide (∀ k, k < t - f → zs.getD (f + k) (-1) = zs.getD (e + k) (-1))
def mt1 (S : GS) (zu zl : List Int32) (i ue j le k : Nat) : Bool := rep zu i ue (gU S k) && rep zl j le (gD S k)
def met (S : GS) (zu zl : List Int32) (i ue j le : Nat) : Nat → Nat → Option Nat
  | 0, _ => none
  | f + 1, k => if mt1 S zu zl i ue j le k = true then some k else met S zu zl i ue j le f (k + 1)
set_option maxRecDepth 10000 in
set_option maxHeartbeats 1000000 in
theorem c_Generaliser_metBefore {G : Ctx} {d : Nat} {Γ : List Sh} {σ : Mem} {Q : Option Value → List Sh → Mem → Prop} {S : GS} {ru nu rl nl i ue j le : Nat} {yu yl : List Int32}  (hS : isGen Γ σ S) (hU : isRow Γ σ ru nu yu) (hL : isRow Γ σ rl nl yl) (hi : i ≤ 1000000) (hue : ue ≤ 1000000) (hj : j ≤ 1000000) (hle : le ≤ 1000000) (hub : ∀ k, k < gC S → gU S k ≤ 1000000 ∧ gD S k ≤ 1000000) (hQ : Q (some (.int (oI (met S (yu.take nu) (yl.take nl) i ue j le (gC S) 0)))) Γ σ) : Ct G M_Generaliser_metBefore (d + 2) 0 0 [rf G 380, rf G ru, .int (nI i), .int (nI ue), rf G rl, .int (nI j), .int (nI le)] Γ σ Q := by
  obtain ⟨⟨a1, a2, a3⟩, ⟨b1, b2, b3, b4, b5⟩, ⟨c1, c2⟩, d1, e1, f1⟩ := id hS
  obtain ⟨u1, -⟩ := id hU
  obtain ⟨v1, -⟩ := id hL
  have lp : ∀ (k : Nat) (q : Nat), q + k = gC S → met S (yu.take nu) (yl.take nl) i ue j le k q = met S (yu.take nu) (yl.take nl) i ue j le (gC S) 0 → Wq G M_Generaliser_metBefore (Em G (d + 2) 0 0 Q) 0 0 3 [some (rf G 380), some (rf G ru), some (.int (nI i)), some (.int (nI ue)), some (rf G rl), some (.int (nI j)), some (.int (nI le)), some (.int (nI q))] [] [] Γ σ := by
    intro k
    induction k with
    | zero =>
      intro q h1 h2
      refine x_iload d_Generaliser_metBefore_3 rfl ?_
      first | refine x_aload_n d_Generaliser_metBefore_5 rfl rfl ?_ | refine x_aloadN_n d_Generaliser_metBefore_5 rfl rfl ?_ | refine x_aloadE_n d_Generaliser_metBefore_5 rfl rfl ?_ | refine x_aloadO_n d_Generaliser_metBefore_5 rfl rfl ?_
      refine x_getI d_Generaliser_metBefore_6 f_Generaliser_27 rfl (by assumption) ?_
      refine x_icmp_ge (tgt := 63) d_Generaliser_metBefore_9 (by decide) (fun c9 => ?_) (fun c9 => ?_)
      · refine x_iconst (v := -1) d_Generaliser_metBefore_63 (by decide) ?_
        exact x_ireturn d_Generaliser_metBefore_64 rfl rfl (by rw [show met S (yu.take nu) (yl.take nl) i ue j le 0 q = none from rfl] at h2; rw [← h2] at hQ; exact hQ)
      · exact absurd (by rw [c1]; exact nI_le (by omega) (by omega)) c9
    | succ k ih =>
      intro q h1 h2
      refine x_iload d_Generaliser_metBefore_3 rfl ?_
      first | refine x_aload_n d_Generaliser_metBefore_5 rfl rfl ?_ | refine x_aloadN_n d_Generaliser_metBefore_5 rfl rfl ?_ | refine x_aloadE_n d_Generaliser_metBefore_5 rfl rfl ?_ | refine x_aloadO_n d_Generaliser_metBefore_5 rfl rfl ?_
      refine x_getI d_Generaliser_metBefore_6 f_Generaliser_27 rfl (by assumption) ?_
      refine x_icmp_ge (tgt := 63) d_Generaliser_metBefore_9 (by decide) (fun c9 => ?_) (fun c9 => ?_)
      · rw [c1, nI_leI (by omega) (by omega)] at c9; omega
      · refine x_iload d_Generaliser_metBefore_12 rfl ?_
        refine x_bipush (v := 40) d_Generaliser_metBefore_14 (by decide) ?_
        refine x_icmp_ge (tgt := 63) d_Generaliser_metBefore_16 (by decide) (fun c16 => ?_) (fun c16 => ?_)
        · have := (nI_leI (a := 40) (by decide) (by omega)).mp c16; omega
        · have hqc : q < gC S := by omega
          have hq1 := e1 q hqc
          first | refine x_aload_n d_Generaliser_metBefore_19 rfl rfl ?_ | refine x_aloadN_n d_Generaliser_metBefore_19 rfl rfl ?_ | refine x_aloadE_n d_Generaliser_metBefore_19 rfl rfl ?_ | refine x_aloadO_n d_Generaliser_metBefore_19 rfl rfl ?_
          refine x_iload_n d_Generaliser_metBefore_20 rfl rfl ?_
          refine x_iload_n d_Generaliser_metBefore_21 rfl rfl ?_
          first | refine x_aload_n d_Generaliser_metBefore_22 rfl rfl ?_ | refine x_aloadN_n d_Generaliser_metBefore_22 rfl rfl ?_ | refine x_aloadE_n d_Generaliser_metBefore_22 rfl rfl ?_ | refine x_aloadO_n d_Generaliser_metBefore_22 rfl rfl ?_
          refine x_getR d_Generaliser_metBefore_23 f_Generaliser_20 rfl (by assumption) (by assumption) ?_
          refine x_iload d_Generaliser_metBefore_26 rfl ?_
          refine x_iald d_Generaliser_metBefore_28 (by assumption) (vp_in_nI (by omega) (by decide)) ?_
          rw [nI_clamp (by omega), hq1.1]
          refine x_callV3 d_Generaliser_metBefore_29 k_Row_repeats l_Generaliser_100 v_Row_repeats rfl s_Row_repeats (by assumption) RoomE.m (Nat.le_of_ble_eq_true rfl) (c_Row_repeats hU (by omega) (by omega) (hub q hqc).1 ?_)
          refine x_if_eq (tgt := 57) d_Generaliser_metBefore_32 (by decide) (fun c32 => ?_) (fun c32 => ?_)
          · refine x_iinc (v := nI (q + 1)) d_Generaliser_metBefore_57 rfl (nI_1 q) rfl ?_
            refine x_goto (tgt := 3) d_Generaliser_metBefore_60 (by decide) ?_
            exact Wq.fg (ih (q + 1) (by omega) (by rw [met, mt1, rep, bI_0 c32, Bool.false_and, if_neg (by decide)] at h2; exact h2)) ⟨rfl, rfl, rfl, rfl, rfl, rfl, rfl, rfl, trivial⟩
          · first | refine x_aload d_Generaliser_metBefore_35 rfl ?_ | refine x_aloadN d_Generaliser_metBefore_35 rfl ?_ | refine x_aloadE d_Generaliser_metBefore_35 rfl ?_ | refine x_aloadO d_Generaliser_metBefore_35 rfl ?_
            refine x_iload d_Generaliser_metBefore_37 rfl ?_
            refine x_iload d_Generaliser_metBefore_39 rfl ?_
            first | refine x_aload_n d_Generaliser_metBefore_41 rfl rfl ?_ | refine x_aloadN_n d_Generaliser_metBefore_41 rfl rfl ?_ | refine x_aloadE_n d_Generaliser_metBefore_41 rfl rfl ?_ | refine x_aloadO_n d_Generaliser_metBefore_41 rfl rfl ?_
            refine x_getR d_Generaliser_metBefore_42 f_Generaliser_24 rfl (by assumption) (by assumption) ?_
            refine x_iload d_Generaliser_metBefore_45 rfl ?_
            refine x_iald d_Generaliser_metBefore_47 (by assumption) (vp_in_nI (by omega) (by decide)) ?_
            rw [nI_clamp (by omega), hq1.2]
            refine x_callV3 d_Generaliser_metBefore_48 k_Row_repeats l_Generaliser_100 v_Row_repeats rfl s_Row_repeats (by assumption) RoomE.m (Nat.le_of_ble_eq_true rfl) (c_Row_repeats hL (by omega) (by omega) (hub q hqc).2 ?_)
            refine x_if_eq (tgt := 57) d_Generaliser_metBefore_51 (by decide) (fun c51 => ?_) (fun c51 => ?_)
            · refine x_iinc (v := nI (q + 1)) d_Generaliser_metBefore_57 rfl (nI_1 q) rfl ?_
              refine x_goto (tgt := 3) d_Generaliser_metBefore_60 (by decide) ?_
              exact Wq.fg (ih (q + 1) (by omega) (by rw [met, mt1, rep, rep, bI_0 c51, Bool.and_false, if_neg (by decide)] at h2; exact h2)) ⟨rfl, rfl, rfl, rfl, rfl, rfl, rfl, rfl, trivial⟩
            · refine x_iload d_Generaliser_metBefore_54 rfl ?_
              exact x_ireturn d_Generaliser_metBefore_56 rfl rfl (by rw [met, mt1, rep, rep, bI_n0 c32, bI_n0 c51, if_pos (by decide)] at h2; rw [← h2] at hQ; exact hQ)
  refine Ct.of (lv := [some (rf G 380), some (rf G ru), some (.int (nI i)), some (.int (nI ue)), some (rf G rl), some (.int (nI j)), some (.int (nI le)), none]) (ll := []) rfl rfl (EN.cat (n := 1) ⟨rfl, rfl, rfl, rfl, rfl, rfl, rfl, trivial⟩ (Nat.le_of_ble_eq_true rfl)) ?_
  refine x_iconst (v := 0) d_Generaliser_metBefore_0 (by decide) ?_
  refine x_istore d_Generaliser_metBefore_1 rfl ?_
  exact Wq.fg (lp (gC S) 0 (by omega) rfl) ⟨rfl, rfl, rfl, rfl, rfl, rfl, rfl, by rw [nI_0], trivial⟩
