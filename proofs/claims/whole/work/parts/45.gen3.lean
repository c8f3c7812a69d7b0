/-! Generaliser.let, generalise -/
theorem tPut_o {T : TS} {p n k : Nat} : (tD (tPut T p n) k).1 = (tD T k).1 ∧ (tD (tPut T p n) k).2.2 = (tD T k).2.2 ∧ (∀ j, j ≠ 4 → j ≠ 5 → j ≠ 6 → (tD (tPut T p n) k).2.1 j = (tD T k).2.1 j) ∧ tN (tPut T p n) = tN T ∧ tV (tPut T p n) = tV T ∧ tG (tPut T p n) = tG T := by
  have hu : ∀ (T : TS) (q : Nat) (x : ND), x.1 = (tD T q).1 → x.2.2 = (tD T q).2.2 → (∀ j, j ≠ 4 → j ≠ 5 → j ≠ 6 → x.2.1 j = (tD T q).2.1 j) → (tD (tUp T q x) k).1 = (tD T k).1 ∧ (tD (tUp T q x) k).2.2 = (tD T k).2.2 ∧ (∀ j, j ≠ 4 → j ≠ 5 → j ≠ 6 → (tD (tUp T q x) k).2.1 j = (tD T k).2.1 j) := by
    intro T q x h1 h2 h3
    by_cases z : k = q
    · subst z; rw [tD_up]; exact ⟨h1, h2, h3⟩
    · rw [tD_ne z]; exact ⟨rfl, rfl, fun _ _ _ _ => rfl⟩
  unfold tPut
  split
  · have := hu T p (xr (xr (tD T p) 4 (some n)) 5 (some n)) rfl rfl (fun j h4 h5 h6 => by simp [xr, upN, h4, h5])
    exact ⟨this.1, this.2.1, this.2.2, rfl, rfl, rfl⟩
  · next q hq =>
    have a := hu T q (xr (tD T q) 6 (some n)) rfl rfl (fun j h4 h5 h6 => by simp [xr, upN, h6])
    have b := hu (tUp T q (xr (tD T q) 6 (some n))) p (xr (tD (tUp T q (xr (tD T q) 6 (some n))) p) 5 (some n)) rfl rfl (fun j h4 h5 h6 => by simp [xr, upN, h5])
    exact ⟨b.1.trans a.1, b.2.1.trans a.2.1, fun j h4 h5 h6 => (b.2.2 j h4 h5 h6).trans (a.2.2 j h4 h5 h6), rfl, rfl, rfl⟩
theorem tOpen_ne {T : TS} {ab : Option Nat} {l : List Int32} {k : Nat} (h : k ≠ tN T) : tD (tOpen T ab l) k = tD T k := by
  have h' : ¬ k = T.1 := h
  simp [tD, tOpen, upN, h']
theorem tAdd_o {T : TS} {ab : Option Nat} {l : List Int32} {tl : Bool} {k : Nat} (hk : k < tN T) : (tD (tAdd T ab l tl).1 k).1 = (tD T k).1 ∧ (tD (tAdd T ab l tl).1 k).2.2 = (tD T k).2.2 ∧ (∀ j, j ≠ 4 → j ≠ 5 → j ≠ 6 → (tD (tAdd T ab l tl).1 k).2.1 j = (tD T k).2.1 j) ∧ tN T ≤ tN (tAdd T ab l tl).1 := by
  unfold tAdd
  split
  · exact ⟨rfl, rfl, fun _ _ _ _ => rfl, Nat.le_refl _⟩
  · have e := tOpen_ne (T := T) (ab := ab) (l := l) (k := k) (by omega)
    cases ab with
    | none => exact ⟨by show (tD (tOpen T none l) k).1 = _; rw [e], by show (tD (tOpen T none l) k).2.2 = _; rw [e], fun j _ _ _ => by show (tD (tOpen T none l) k).2.1 j = _; rw [e], Nat.le_succ _⟩
    | some q =>
      have a := tPut_o (T := tOpen T (some q) l) (p := q) (n := tN T) (k := k)
      rw [e] at a
      exact ⟨a.1, a.2.1, a.2.2.1, by show tN T ≤ tN (tPut _ _ _); rw [a.2.2.2.1]; exact Nat.le_succ _⟩
def tLetL (P : Int32 → Int32) (n : Nat) (zs : List Int32) (tl : Bool) (st : Nat → Nat) : Nat → Nat → TS → TS
  | 0, _, T => T
  | f + 1, k, T => tLetL P n zs tl st f (k + 1) (tAdd T (some n) ((zs.take (behind P zs (st k))).drop (st k)) tl).1
def tLet0 (T : TS) (n : Nat) (S : GS) : TS := tUp T n (xi (nBecome (tD T n) 7 (nI (gC S))) 13 (gF S))
def tLet (P : Int32 → Int32) (T : TS) (n : Nat) (S : GS) (st : Nat → Nat) : TS := tLetL P n ((ntm (tD T n)).take 40) (decide (40 < (ntm (tD T n)).length)) st (gC S) 0 (tAdd (tLet0 T n S) (some n) ((gL S).take 40) (decide (40 < (gL S).length))).1
def inTG (a : Nat) : Prop := inT a ∨ inG a
theorem inTG.t {a : Nat} (h : inT a) : inTG a := Or.inl h
theorem FrP.TG {σ σ' : Mem} (h : FrP inT σ σ') : FrP inTG σ σ' := h.mono (fun _ z => Or.inl z)
theorem isGen.T {Γ : List Sh} {σ σ' : Mem} {S : GS} (h : isGen Γ σ S) (hf : FrP inT σ σ') : isGen Γ σ' S := h.P hf (fun a ha hb => by unfold inG at ha; unfold inT at hb; omega)
theorem sg_T {Γ : List Sh} {σ σ' : Mem} {pt : Nat → Int32} {cs : Nat → Bool} (h : isSg Γ σ 27 pt cs) (hf : FrP inT σ σ') : isSg Γ σ' 27 pt cs := h.P hf (by unfold inT; omega) (by unfold inT; omega) (by unfold inT; omega)
theorem behind_ge {P : Int32 → Int32} {zs : List Int32} {i : Nat} : i ≤ behind P zs i := Nat.le_add_right _ _
set_option maxRecDepth 10000 in
set_option maxHeartbeats 1000000 in
theorem c_Generaliser_let {G : Ctx} {d : Nat} {Γ : List Sh} {σ : Mem} {Q : Option Value → List Sh → Mem → Prop} {T : TS} {S : GS} {pt : Nat → Int32} {cs : Nat → Bool} {n e : Nat} {st : Nat → Nat}  (hT : isTree Γ σ T) (hS : isGen Γ σ S) (hG : isSg Γ σ 27 pt cs) (hnt : n < tN T) (hest : (e = 383 ∧ st = gU S) ∨ (e = 384 ∧ st = gD S)) (hst : ∀ k, k < gC S → st k ≤ ((ntm (tD T n)).take 40).length) (hQ : ∀ σ', isTree Γ σ' (tLet (sgP pt) T n S st) → isGen Γ σ' S → FrP inT σ σ' → Q none Γ σ') : Ct G M_Generaliser_let (d + 4) 0 0 [rf G 380, rf G (133 + 5 * n), rf G e] Γ σ Q := by
  obtain ⟨⟨s1, -⟩, -⟩ := id hG
  obtain ⟨⟨a1, a2, a3⟩, ⟨b1, b2, b3, b4, b5⟩, ⟨c1, c2⟩, d1, e1, f1⟩ := id hS
  obtain ⟨t1, -, -, ⟨-, t4b⟩, -⟩ := id hT
  have hn : n < 48 := by omega
  have hN := hT.nd hn
  have he : Γ[e]? = some (1, 40) := by rcases hest with ⟨h7, -⟩ | ⟨h7, -⟩ <;> rw [h7] <;> assumption
  have hzl : ((ntm (tD T n)).take 40).length ≤ 40 := by rw [List.length_take]; omega
  have lp : ∀ (k : Nat) (i : Nat) (T0 : TS) (τ : Mem), i + k = gC S → tLetL (sgP pt) n ((ntm (tD T n)).take 40) (decide (40 < (ntm (tD T n)).length)) st k i T0 = tLet (sgP pt) T n S st → isTree Γ τ T0 → isGen Γ τ S → FrP inT σ τ → n < tN T0 → ntm (tD T0 n) = ntm (tD T n) → Wq G M_Generaliser_let (Em G (d + 4) 0 0 Q) 0 0 41 [some (rf G 380), some (rf G (133 + 5 * n)), some (rf G e), some (.int (nI i))] [] [] Γ τ := by
    intro k
    induction k with
    | zero =>
      intro i T0 τ h1 h2 T1 S1 f0 hnc hm
      obtain ⟨⟨a1, a2, a3⟩, ⟨b1, b2, b3, b4, b5⟩, ⟨c1, c2⟩, d1, e1, f1⟩ := id S1
      have hv : ∀ k, k < gC S → τ.1 e k = nI (st k) := fun k hk => by rcases hest with ⟨h7, h8⟩ | ⟨h7, h8⟩ <;> rw [h7, h8] <;> first | exact (e1 k hk).1 | exact (e1 k hk).2
      refine x_iload_n d_Generaliser_let_41 rfl rfl ?_
      first | refine x_aload_n d_Generaliser_let_42 rfl rfl ?_ | refine x_aloadN_n d_Generaliser_let_42 rfl rfl ?_ | refine x_aloadE_n d_Generaliser_let_42 rfl rfl ?_ | refine x_aloadO_n d_Generaliser_let_42 rfl rfl ?_
      refine x_getI d_Generaliser_let_43 f_Generaliser_27 rfl (by assumption) ?_
      refine x_icmp_ge (tgt := 91) d_Generaliser_let_46 (by decide) (fun c46 => ?_) (fun c46 => ?_)
      · exact x_return d_Generaliser_let_91 rfl (hQ τ (by rw [← h2]; exact T1) S1 f0)
      · exact absurd (by rw [c1]; exact nI_le (by omega) (by omega)) c46
    | succ k ih =>
      intro i T0 τ h1 h2 T1 S1 f0 hnc hm
      obtain ⟨⟨a1, a2, a3⟩, ⟨b1, b2, b3, b4, b5⟩, ⟨c1, c2⟩, d1, e1, f1⟩ := id S1
      have hv : ∀ k, k < gC S → τ.1 e k = nI (st k) := fun k hk => by rcases hest with ⟨h7, h8⟩ | ⟨h7, h8⟩ <;> rw [h7, h8] <;> first | exact (e1 k hk).1 | exact (e1 k hk).2
      have R1 := (T1.nd hn).2.2.2.1
      rw [hm] at R1
      obtain ⟨t1, -⟩ := id T1
      obtain ⟨g1, -⟩ := id (sg_T hG f0).1
      refine x_iload_n d_Generaliser_let_41 rfl rfl ?_
      first | refine x_aload_n d_Generaliser_let_42 rfl rfl ?_ | refine x_aloadN_n d_Generaliser_let_42 rfl rfl ?_ | refine x_aloadE_n d_Generaliser_let_42 rfl rfl ?_ | refine x_aloadO_n d_Generaliser_let_42 rfl rfl ?_
      refine x_getI d_Generaliser_let_43 f_Generaliser_27 rfl (by assumption) ?_
      refine x_icmp_ge (tgt := 91) d_Generaliser_let_46 (by decide) (fun c46 => ?_) (fun c46 => ?_)
      · rw [c1, nI_leI (by omega) (by omega)] at c46; omega
      · refine x_iload_n d_Generaliser_let_49 rfl rfl ?_
        first | refine x_aload_n d_Generaliser_let_50 rfl rfl ?_ | refine x_aloadN_n d_Generaliser_let_50 rfl rfl ?_ | refine x_aloadE_n d_Generaliser_let_50 rfl rfl ?_ | refine x_aloadO_n d_Generaliser_let_50 rfl rfl ?_
        refine x_alen d_Generaliser_let_51 (by assumption) (by decide) rfl ?_
        refine x_icmp_ge (tgt := 91) d_Generaliser_let_52 (by decide) (fun c52 => ?_) (fun c52 => ?_)
        · have := (nI_leI (a := 40) (by decide) (by omega)).mp c52; omega
        · first | refine x_aload_n d_Generaliser_let_55 rfl rfl ?_ | refine x_aloadN_n d_Generaliser_let_55 rfl rfl ?_ | refine x_aloadE_n d_Generaliser_let_55 rfl rfl ?_ | refine x_aloadO_n d_Generaliser_let_55 rfl rfl ?_
          refine x_getR d_Generaliser_let_56 f_Generaliser_38 rfl (by assumption) (by assumption) ?_
          first | refine x_aload_n d_Generaliser_let_59 rfl rfl ?_ | refine x_aloadN_n d_Generaliser_let_59 rfl rfl ?_ | refine x_aloadE_n d_Generaliser_let_59 rfl rfl ?_ | refine x_aloadO_n d_Generaliser_let_59 rfl rfl ?_
          first | refine x_aload_n d_Generaliser_let_60 rfl rfl ?_ | refine x_aloadN_n d_Generaliser_let_60 rfl rfl ?_ | refine x_aloadE_n d_Generaliser_let_60 rfl rfl ?_ | refine x_aloadO_n d_Generaliser_let_60 rfl rfl ?_
          refine x_getR d_Generaliser_let_61 f_Generaliser_45 rfl (by exact (T1.nd hn).1) ((T1.nd hn).2.2.1.1) ?_
          first | refine x_aload_n d_Generaliser_let_64 rfl rfl ?_ | refine x_aloadN_n d_Generaliser_let_64 rfl rfl ?_ | refine x_aloadE_n d_Generaliser_let_64 rfl rfl ?_ | refine x_aloadO_n d_Generaliser_let_64 rfl rfl ?_
          refine x_iload_n d_Generaliser_let_65 rfl rfl ?_
          refine x_iald d_Generaliser_let_66 (by assumption) (vp_in_nI (by omega) (by decide)) ?_
          rw [nI_clamp (by omega), hv i (by omega)]
          first | refine x_aload_n d_Generaliser_let_67 rfl rfl ?_ | refine x_aloadN_n d_Generaliser_let_67 rfl rfl ?_ | refine x_aloadE_n d_Generaliser_let_67 rfl rfl ?_ | refine x_aloadO_n d_Generaliser_let_67 rfl rfl ?_
          refine x_getR d_Generaliser_let_68 f_Generaliser_34 rfl (by assumption) (by assumption) ?_
          first | refine x_aload_n d_Generaliser_let_71 rfl rfl ?_ | refine x_aloadN_n d_Generaliser_let_71 rfl rfl ?_ | refine x_aloadE_n d_Generaliser_let_71 rfl rfl ?_ | refine x_aloadO_n d_Generaliser_let_71 rfl rfl ?_
          refine x_getR d_Generaliser_let_72 f_Generaliser_45 rfl (by exact (T1.nd hn).1) ((T1.nd hn).2.2.1.1) ?_
          first | refine x_aload_n d_Generaliser_let_75 rfl rfl ?_ | refine x_aloadN_n d_Generaliser_let_75 rfl rfl ?_ | refine x_aloadE_n d_Generaliser_let_75 rfl rfl ?_ | refine x_aloadO_n d_Generaliser_let_75 rfl rfl ?_
          refine x_iload_n d_Generaliser_let_76 rfl rfl ?_
          refine x_iald d_Generaliser_let_77 (by assumption) (vp_in_nI (by omega) (by decide)) ?_
          rw [nI_clamp (by omega), hv i (by omega)]
          refine x_callV2 d_Generaliser_let_78 k_Signs_behind l_Generaliser_88 v_Signs_behind rfl s_Signs_behind (by assumption) RoomE.m (Nat.le_of_ble_eq_true rfl) (c_Signs_behind (sg_T hG f0) R1 (by have := hst i (by omega); omega) ?_)
          refine x_callV4 d_Generaliser_let_81 k_Tree_add l_Generaliser_113 v_Tree_add rfl s_Tree_add (by exact T1.1) RoomE.m (Nat.le_of_ble_eq_true rfl) (c_Tree_add (ab := some n) T1 R1 (fun h => by unfold inN; omega) (by omega) (lk48.s hn) (behind_ge) (behind_le (by have := hst i (by omega); omega)) (fun τ2 T2 f2 => ?_))
          first | refine x_pop d_Generaliser_let_84 ov_cat ?_ | refine x_pop d_Generaliser_let_84 rfl ?_
          refine x_iinc (v := nI (i + 1)) d_Generaliser_let_85 rfl (nI_1 i) rfl ?_
          refine x_goto (tgt := 41) d_Generaliser_let_88 (by decide) ?_
          exact Wq.fg (ih (i + 1) _ τ2 (by omega) (by rw [tLetL] at h2; exact h2) T2 (S1.T f2) (f0.tr f2) (by have := (tAdd_o (ab := some n) (l := (((ntm (tD T n)).take 40).take (behind (sgP pt) ((ntm (tD T n)).take 40) (st i))).drop (st i)) (tl := (decide (40 < (ntm (tD T n)).length))) hnc).2.2.2; omega) (by rw [← hm]; exact congrArg Prod.fst (tAdd_o hnc).2.1)) ⟨rfl, rfl, rfl, rfl, trivial⟩
  refine Ct.of (lv := [some (rf G 380), some (rf G (133 + 5 * n)), some (rf G e), none]) (ll := []) rfl rfl (EN.cat (n := 1) ⟨rfl, rfl, rfl, trivial⟩ (Nat.le_of_ble_eq_true rfl)) ?_
  first | refine x_aload_n d_Generaliser_let_0 rfl rfl ?_ | refine x_aloadN_n d_Generaliser_let_0 rfl rfl ?_ | refine x_aloadE_n d_Generaliser_let_0 rfl rfl ?_ | refine x_aloadO_n d_Generaliser_let_0 rfl rfl ?_
  refine x_bipush (v := 7) d_Generaliser_let_1 (by decide) ?_
  first | refine x_aload_n d_Generaliser_let_3 rfl rfl ?_ | refine x_aloadN_n d_Generaliser_let_3 rfl rfl ?_ | refine x_aloadE_n d_Generaliser_let_3 rfl rfl ?_ | refine x_aloadO_n d_Generaliser_let_3 rfl rfl ?_
  refine x_getI d_Generaliser_let_4 f_Generaliser_27 rfl (by assumption) ?_
  rw [c1]
  refine x_callV2 d_Generaliser_let_7 k_Node_become l_Generaliser_106 v_Node_become rfl s_Node_become (by exact hN.1) RoomE.m (Nat.le_of_ble_eq_true rfl) (c_Node_become hN (fun τ1 N1 f1b => ?_))
  first | refine x_aload_n d_Generaliser_let_10 rfl rfl ?_ | refine x_aloadN_n d_Generaliser_let_10 rfl rfl ?_ | refine x_aloadE_n d_Generaliser_let_10 rfl rfl ?_ | refine x_aloadO_n d_Generaliser_let_10 rfl rfl ?_
  first | refine x_aload_n d_Generaliser_let_11 rfl rfl ?_ | refine x_aloadN_n d_Generaliser_let_11 rfl rfl ?_ | refine x_aloadE_n d_Generaliser_let_11 rfl rfl ?_ | refine x_aloadO_n d_Generaliser_let_11 rfl rfl ?_
  refine x_getI d_Generaliser_let_12 f_Generaliser_31 rfl (by assumption) ?_
  have S1 := hS.T ((f1b.N (n := n) (by simp [inN] <;> omega)).T hn)
  rw [show τ1.1 380 6 = gF S from S1.2.2.2.1]
  refine x_putI d_Generaliser_let_15 (w_Generaliser_m_110 _) rfl (by first | rfl | decide) (by first | rfl | decide) (by exact hN.1) ?_
  have N2 : isNd Γ _ n _ := N1.wI (j := 13) (v := gF S) rfl
  have f2 : FrP (inN n) σ (wI τ1 (133 + 5 * n) 13 (gF S)) := (f1b.N (by simp [inN] <;> omega)).wI ⟨by omega, by omega⟩
  have T2 := hT.up hn f2 N2
  have S2 := hS.T (f2.T hn)
  first | refine x_aload_n d_Generaliser_let_18 rfl rfl ?_ | refine x_aloadN_n d_Generaliser_let_18 rfl rfl ?_ | refine x_aloadE_n d_Generaliser_let_18 rfl rfl ?_ | refine x_aloadO_n d_Generaliser_let_18 rfl rfl ?_
  refine x_getR d_Generaliser_let_19 f_Generaliser_38 rfl (by assumption) (S2.2.1.2.1) ?_
  first | refine x_aload_n d_Generaliser_let_22 rfl rfl ?_ | refine x_aloadN_n d_Generaliser_let_22 rfl rfl ?_ | refine x_aloadE_n d_Generaliser_let_22 rfl rfl ?_ | refine x_aloadO_n d_Generaliser_let_22 rfl rfl ?_
  first | refine x_aload_n d_Generaliser_let_23 rfl rfl ?_ | refine x_aloadN_n d_Generaliser_let_23 rfl rfl ?_ | refine x_aloadE_n d_Generaliser_let_23 rfl rfl ?_ | refine x_aloadO_n d_Generaliser_let_23 rfl rfl ?_
  refine x_getR d_Generaliser_let_24 f_Generaliser_14 rfl (by assumption) (S2.2.1.2.2.1) ?_
  refine x_iconst (v := 0) d_Generaliser_let_27 (by decide) ?_
  first | refine x_aload_n d_Generaliser_let_28 rfl rfl ?_ | refine x_aloadN_n d_Generaliser_let_28 rfl rfl ?_ | refine x_aloadE_n d_Generaliser_let_28 rfl rfl ?_ | refine x_aloadO_n d_Generaliser_let_28 rfl rfl ?_
  refine x_getR d_Generaliser_let_29 f_Generaliser_14 rfl (by assumption) (S2.2.1.2.2.1) ?_
  refine x_callV0 d_Generaliser_let_32 k_Row_length l_Generaliser_92 v_Row_length rfl s_Row_length (by exact f1.1) RoomE.m (Nat.le_of_ble_eq_true rfl) (c_Row_length S2.2.2.2.2.2 ?_)
  refine x_callV4 d_Generaliser_let_35 k_Tree_add l_Generaliser_113 v_Tree_add rfl s_Tree_add (by exact hT.1) RoomE.m (Nat.le_of_ble_eq_true rfl) (c_Tree_add (f := 0) (ab := some n) T2 S2.2.2.2.2.2 (fun h => by unfold inN; omega) (by omega) (lk48.s hn) (Nat.zero_le _) (Nat.le_refl _) (fun τ3 T3 f3 => ?_))
  first | refine x_pop d_Generaliser_let_38 ov_cat ?_ | refine x_pop d_Generaliser_let_38 rfl ?_
  refine x_iconst (v := 0) d_Generaliser_let_39 (by decide) ?_
  refine x_istore_n d_Generaliser_let_40 rfl rfl ?_
  have e9 : (((gL S).take 40).take ((gL S).take 40).length).drop 0 = (gL S).take 40 := by rw [List.take_of_length_le (Nat.le_refl _)]; rfl
  rw [e9] at T3
  have ao := tAdd_o (T := tLet0 T n S) (ab := some n) (l := (gL S).take 40) (tl := decide (40 < (gL S).length)) (k := n) hnt
  exact Wq.fg (lp (gC S) 0 _ τ3 (by omega) rfl T3 (S2.T f3) ((f2.T hn).tr f3) (Nat.lt_of_lt_of_le hnt ao.2.2.2) (by
    have := congrArg Prod.fst ao.2.1
    refine this.trans ?_
    show ntm (tD (tLet0 T n S) n) = _
    rw [tLet0, tD_up]
    rfl)) ⟨rfl, rfl, rfl, by rw [nI_0], trivial⟩
theorem tNew_o {T : TS} : tD (tNew T).1 = tD T ∧ tN (tNew T).1 = tN T := by
  unfold tNew
  split <;> exact ⟨rfl, rfl⟩
theorem tApart_o {P : Int32 → Int32} {zs : List Int32} : ∀ {k pl : Nat} {S : GS} {T : TS}, tD (tApart P zs k pl S T).2 = tD T ∧ tN (tApart P zs k pl S T).2 = tN T
  | 0, _, S, T => ⟨rfl, rfl⟩
  | k + 1, pl, S, T => by
    have ih := tApart_o (P := P) (zs := zs) (k := k) (pl := behind P zs pl) (S := gAdd (gN1 S (tNew T).2 pl pl) (tNew T).2) (T := (tNew T).1)
    exact ⟨ih.1.trans tNew_o.1, ih.2.trans tNew_o.2⟩
theorem tCom_o {P : Int32 → Int32} {zu zl : List Int32} : ∀ {f i j : Nat} {S : GS} {T : TS}, tD (tCom P zu zl f i j S T).2 = tD T ∧ tN (tCom P zu zl f i j S T).2 = tN T
  | 0, _, _, S, T => ⟨rfl, rfl⟩
  | f + 1, i, j, S, T => by
    unfold tCom
    split
    · split
      · exact tCom_o
      · split
        · exact tCom_o
        · exact ⟨tCom_o.1.trans tNew_o.1, tCom_o.2.trans tNew_o.2⟩
    · exact ⟨rfl, rfl⟩
def gZ (S : GS) : GS := ([], 0, S.2.2)
def tGen (P : Int32 → Int32) (T : TS) (b a : Nat) (S : GS) : GS × TS :=
  if ((ntm (tD T a)).take 40).getD 0 (-1) = ((ntm (tD T b)).take 40).getD 0 (-1) then
    (if renI ((gL (tCom P ((ntm (tD T a)).take 40) ((ntm (tD T b)).take 40) 40 0 0 (gZ S) T).1).take 40) ((ntm (tD T a)).take 40) = true then
      ((tCom P ((ntm (tD T a)).take 40) ((ntm (tD T b)).take 40) 40 0 0 (gZ S) T).1, tLet P (tCom P ((ntm (tD T a)).take 40) ((ntm (tD T b)).take 40) 40 0 0 (gZ S) T).2 b (tCom P ((ntm (tD T a)).take 40) ((ntm (tD T b)).take 40) 40 0 0 (gZ S) T).1 (gD (tCom P ((ntm (tD T a)).take 40) ((ntm (tD T b)).take 40) 40 0 0 (gZ S) T).1))
    else ((tCom P ((ntm (tD T a)).take 40) ((ntm (tD T b)).take 40) 40 0 0 (gZ S) T).1, tLet P (tRm (tCom P ((ntm (tD T a)).take 40) ((ntm (tD T b)).take 40) 40 0 0 (gZ S) T).2 a) a (tCom P ((ntm (tD T a)).take 40) ((ntm (tD T b)).take 40) 40 0 0 (gZ S) T).1 (gU (tCom P ((ntm (tD T a)).take 40) ((ntm (tD T b)).take 40) 40 0 0 (gZ S) T).1)))
  else ((tApart P ((ntm (tD T b)).take 40) (nP P (((ntm (tD T b)).take 40).getD 0 (-1))) 1 (gAdd (gZ S) (((ntm (tD T b)).take 40).getD 0 (-1))) T).1, tLet P (tApart P ((ntm (tD T b)).take 40) (nP P (((ntm (tD T b)).take 40).getD 0 (-1))) 1 (gAdd (gZ S) (((ntm (tD T b)).take 40).getD 0 (-1))) T).2 b (tApart P ((ntm (tD T b)).take 40) (nP P (((ntm (tD T b)).take 40).getD 0 (-1))) 1 (gAdd (gZ S) (((ntm (tD T b)).take 40).getD 0 (-1))) T).1 (gD (tApart P ((ntm (tD T b)).take 40) (nP P (((ntm (tD T b)).take 40).getD 0 (-1))) 1 (gAdd (gZ S) (((ntm (tD T b)).take 40).getD 0 (-1))) T).1))
theorem gf_inTG : ∀ a ∈ GF, inTG a := by
  intro a ha
  simp [GF] at ha
  unfold inTG inT inG
  omega
theorem sg_TG {Γ : List Sh} {σ σ' : Mem} {pt : Nat → Int32} {cs : Nat → Bool} (h : isSg Γ σ 27 pt cs) (hf : FrP inTG σ σ') : isSg Γ σ' 27 pt cs := h.P hf (by unfold inTG inT inG; omega) (by unfold inTG inT inG; omega) (by unfold inTG inT inG; omega)
theorem tRmL_o {top : Nat} : ∀ {k n : Nat} {T : TS} {q : Nat}, ntm (tD (tRmL top k n T) q) = ntm (tD T q) ∧ tN (tRmL top k n T) = tN T
  | 0, n, T, q => ⟨rfl, rfl⟩
  | k + 1, n, T, q => by
    have ih := tRmL_o (top := top) (k := k) (n := n + 1) (T := tRm1 T top n) (q := q)
    refine ⟨ih.1.trans ?_, ih.2.trans tRm1_N⟩
    unfold tRm1
    split
    · by_cases z : q = n
      · subst z; rw [tD_up]; rfl
      · rw [tD_ne z]
    · rfl
theorem tRm_o {T : TS} {top q : Nat} : ntm (tD (tRm T top) q) = ntm (tD T q) ∧ tN (tRm T top) = tN T := by
  have h := fun q => tRmL_o (top := top) (k := tN T - (top + 1)) (n := top + 1) (T := T) (q := q)
  refine ⟨?_, (h q).2⟩
  rw [← (h q).1]
  unfold tRm
  by_cases z : q = top
  · subst z; rw [tD_up]; rfl
  · rw [tD_ne z]
set_option maxRecDepth 10000 in
set_option maxHeartbeats 1000000 in
theorem c_Generaliser_generalise {G : Ctx} {d : Nat} {Γ : List Sh} {σ : Mem} {Q : Option Value → List Sh → Mem → Prop} {T : TS} {S : GS} {pt : Nat → Int32} {cs : Nat → Bool} {a b : Nat}  (hT : isTree Γ σ T) (hS : isGen Γ σ S) (hG : isSg Γ σ 27 pt cs) (ha : a < tN T) (hb : b < tN T) (hA : AW T) (hP : PB (sgP pt)) (hfa : full (nP (sgP pt)) 1 ((ntm (tD T a)).take 40) = true) (hfb : full (nP (sgP pt)) 1 ((ntm (tD T b)).take 40) = true) (hQ : ∀ σ', isTree Γ σ' (tGen (sgP pt) T b a S).2 → isGen Γ σ' (tGen (sgP pt) T b a S).1 → FrP inTG σ σ' → Q none Γ σ') : Ct G M_Generaliser_generalise (d + 5) 0 0 [rf G 380, rf G (133 + 5 * b), rf G (133 + 5 * a)] Γ σ Q := by
  obtain ⟨⟨s1, -⟩, -⟩ := id hG
  obtain ⟨⟨a1, a2, a3⟩, ⟨b1, b2, b3, b4, b5⟩, ⟨c1, c2⟩, d1, e1, f1⟩ := id hS
  obtain ⟨t1, -, -, ⟨-, t4b⟩, -⟩ := id hT
  have hal : a < 48 := by omega
  have hbl : b < 48 := by omega
  have na := hT.nd hal
  have nb := hT.nd hbl
  have hga : 134 + 5 * a ∉ GF ∧ 134 + 5 * a + 1 ∉ GF := by simp [GF]; omega
  have hgb : 134 + 5 * b ∉ GF ∧ 134 + 5 * b + 1 ∉ GF := by simp [GF]; omega
  have hla : ((ntm (tD T a)).take 40).length ≤ 40 := by rw [List.length_take]; omega
  have hlb : ((ntm (tD T b)).take 40).length ≤ 40 := by rw [List.length_take]; omega
  refine Ct.of (lv := [some (rf G 380), some (rf G (133 + 5 * b)), some (rf G (133 + 5 * a))]) (ll := []) rfl rfl (EN.cat (n := 0) ⟨rfl, rfl, rfl, trivial⟩ (Nat.le_of_ble_eq_true rfl)) ?_
  first | refine x_aload_n d_Generaliser_generalise_0 rfl rfl ?_ | refine x_aloadN_n d_Generaliser_generalise_0 rfl rfl ?_ | refine x_aloadE_n d_Generaliser_generalise_0 rfl rfl ?_ | refine x_aloadO_n d_Generaliser_generalise_0 rfl rfl ?_
  refine x_getR d_Generaliser_generalise_1 f_Generaliser_14 rfl (by assumption) (by assumption) ?_
  refine x_callV0 d_Generaliser_generalise_4 k_Row_clear l_Generaliser_42 v_Row_clear rfl s_Row_clear (by exact f1.1) RoomE.m (Nat.le_of_ble_eq_true rfl) (c_Row_clear f1 (fun τ1 r1 f2 => ?_))
  first | refine x_aload_n d_Generaliser_generalise_7 rfl rfl ?_ | refine x_aloadN_n d_Generaliser_generalise_7 rfl rfl ?_ | refine x_aloadE_n d_Generaliser_generalise_7 rfl rfl ?_ | refine x_aloadO_n d_Generaliser_generalise_7 rfl rfl ?_
  refine x_iconst (v := 0) d_Generaliser_generalise_8 (by decide) ?_
  refine x_putI d_Generaliser_generalise_9 (w_Generaliser_m_27 _) rfl (by first | rfl | decide) (by first | rfl | decide) (by assumption) ?_
  have ff : FrI [380, 381] σ (wI τ1 380 5 0) := (f2.mono (by simp)).put (by simp)
  have S1 : isGen Γ (wI τ1 380 5 0) (gZ S) := by
    refine ⟨⟨a1, a2, a3⟩, ?_, ⟨?_, Nat.zero_le _⟩, ?_, fun k hk => absurd hk (Nat.not_lt_zero _), ?_⟩
    · show τ1.2.1 380 0 = _ ∧ τ1.2.1 380 1 = _ ∧ τ1.2.1 380 2 = _ ∧ τ1.2.1 380 3 = _ ∧ τ1.2.1 380 4 = _
      rw [f2.1]; exact ⟨b1, b2, b3, b4, b5⟩
    · rw [wI_s, ← nI_0]; rfl
    · rw [wI_j (by decide), f2.2 _ (by simp)]; exact d1
    · exact r1.fr (FrI.rf.put (S := [380]) (by simp)) (by simp) (by simp)
  have T1 : isTree Γ (wI τ1 380 5 0) T := hT.P (ff.P (T := fun a => a = 380 ∨ a = 381) (by simp)) (fun a ha hb => by unfold inT at ha; omega)
  have G1 : isSg Γ (wI τ1 380 5 0) 27 pt cs := hG.fr ff (by simp) (by simp)
  have RA := (T1.nd hal).2.2.2.1
  have RB := (T1.nd hbl).2.2.2.1
  have fg : Fr GF σ (wI τ1 380 5 0) := ff.fr.mono (by simp [GF])
  have hSB : SB (gZ S) ((ntm (tD T b)).take 40) ((ntm (tD T b)).take 40) := fun k hk => absurd hk (Nat.not_lt_zero _)
  have hSB2 : SB (gZ S) ((ntm (tD T a)).take 40) ((ntm (tD T b)).take 40) := fun k hk => absurd hk (Nat.not_lt_zero _)
  first | refine x_aload_n d_Generaliser_generalise_12 rfl rfl ?_ | refine x_aloadN_n d_Generaliser_generalise_12 rfl rfl ?_ | refine x_aloadE_n d_Generaliser_generalise_12 rfl rfl ?_ | refine x_aloadO_n d_Generaliser_generalise_12 rfl rfl ?_
  refine x_getR d_Generaliser_generalise_13 f_Generaliser_45 rfl (by exact na.1) ((T1.nd hal).2.2.1.1) ?_
  refine x_iconst (v := 0) d_Generaliser_generalise_16 (by decide) ?_
  refine x_callV1 d_Generaliser_generalise_17 k_Row_at l_Generaliser_50 v_Row_at rfl s_Row_at (by exact na.2.2.2.1.1) RoomE.m (Nat.le_of_ble_eq_true rfl) (c_Row_at (i := nI 0) RA ?_)
  rw [atI_nI (by omega)]
  first | refine x_aload_n d_Generaliser_generalise_20 rfl rfl ?_ | refine x_aloadN_n d_Generaliser_generalise_20 rfl rfl ?_ | refine x_aloadE_n d_Generaliser_generalise_20 rfl rfl ?_ | refine x_aloadO_n d_Generaliser_generalise_20 rfl rfl ?_
  refine x_getR d_Generaliser_generalise_21 f_Generaliser_45 rfl (by exact nb.1) ((T1.nd hbl).2.2.1.1) ?_
  refine x_iconst (v := 0) d_Generaliser_generalise_24 (by decide) ?_
  refine x_callV1 d_Generaliser_generalise_25 k_Row_at l_Generaliser_50 v_Row_at rfl s_Row_at (by exact nb.2.2.2.1.1) RoomE.m (Nat.le_of_ble_eq_true rfl) (c_Row_at (i := nI 0) RB ?_)
  rw [atI_nI (by omega)]
  refine x_icmp_eq (tgt := 49) d_Generaliser_generalise_28 (by decide) (fun c28 => ?_) (fun c28 => ?_)
  · first | refine x_aload_n d_Generaliser_generalise_49 rfl rfl ?_ | refine x_aloadN_n d_Generaliser_generalise_49 rfl rfl ?_ | refine x_aloadE_n d_Generaliser_generalise_49 rfl rfl ?_ | refine x_aloadO_n d_Generaliser_generalise_49 rfl rfl ?_
    first | refine x_aload_n d_Generaliser_generalise_50 rfl rfl ?_ | refine x_aloadN_n d_Generaliser_generalise_50 rfl rfl ?_ | refine x_aloadE_n d_Generaliser_generalise_50 rfl rfl ?_ | refine x_aloadO_n d_Generaliser_generalise_50 rfl rfl ?_
    refine x_getR d_Generaliser_generalise_51 f_Generaliser_45 rfl (by exact na.1) ((T1.nd hal).2.2.1.1) ?_
    first | refine x_aload_n d_Generaliser_generalise_54 rfl rfl ?_ | refine x_aloadN_n d_Generaliser_generalise_54 rfl rfl ?_ | refine x_aloadE_n d_Generaliser_generalise_54 rfl rfl ?_ | refine x_aloadO_n d_Generaliser_generalise_54 rfl rfl ?_
    refine x_getR d_Generaliser_generalise_55 f_Generaliser_45 rfl (by exact nb.1) ((T1.nd hbl).2.2.1.1) ?_
    refine x_callV2 d_Generaliser_generalise_58 k_Generaliser_takeCommon l_Generaliser_62 v_Generaliser_takeCommon rfl s_Generaliser_takeCommon (by assumption) RoomE.m (Nat.le_of_ble_eq_true rfl) (c_Generaliser_takeCommon T1 S1 G1 RA RB hga hgb hP hfa hfb hSB2 (fun τ2 T2 S2 B2 f4 => ?_))
    first | refine x_aload_n d_Generaliser_generalise_61 rfl rfl ?_ | refine x_aloadN_n d_Generaliser_generalise_61 rfl rfl ?_ | refine x_aloadE_n d_Generaliser_generalise_61 rfl rfl ?_ | refine x_aloadO_n d_Generaliser_generalise_61 rfl rfl ?_
    refine x_getR d_Generaliser_generalise_62 f_Generaliser_14 rfl (by assumption) (S2.2.1.2.2.1) ?_
    first | refine x_aload_n d_Generaliser_generalise_65 rfl rfl ?_ | refine x_aloadN_n d_Generaliser_generalise_65 rfl rfl ?_ | refine x_aloadE_n d_Generaliser_generalise_65 rfl rfl ?_ | refine x_aloadO_n d_Generaliser_generalise_65 rfl rfl ?_
    refine x_getR d_Generaliser_generalise_66 f_Generaliser_45 rfl (by exact na.1) ((T2.nd hal).2.2.1.1) ?_
    refine x_callV1 d_Generaliser_generalise_69 k_Row_isRenamingOf l_Generaliser_66 v_Row_isRenamingOf rfl s_Row_isRenamingOf (by exact f1.1) RoomE.m (Nat.le_of_ble_eq_true rfl) (c_Row_isRenamingOf S2.2.2.2.2.2 (RA.Fr f4 hga.1 hga.2) ?_)
    refine x_if_eq (tgt := 87) d_Generaliser_generalise_72 (by decide) (fun c72 => ?_) (fun c72 => ?_)
    · first | refine x_aload_n d_Generaliser_generalise_87 rfl rfl ?_ | refine x_aloadN_n d_Generaliser_generalise_87 rfl rfl ?_ | refine x_aloadE_n d_Generaliser_generalise_87 rfl rfl ?_ | refine x_aloadO_n d_Generaliser_generalise_87 rfl rfl ?_
      refine x_getR d_Generaliser_generalise_88 f_Generaliser_38 rfl (by assumption) (S2.2.1.2.1) ?_
      first | refine x_aload_n d_Generaliser_generalise_91 rfl rfl ?_ | refine x_aloadN_n d_Generaliser_generalise_91 rfl rfl ?_ | refine x_aloadE_n d_Generaliser_generalise_91 rfl rfl ?_ | refine x_aloadO_n d_Generaliser_generalise_91 rfl rfl ?_
      have A2 : AW (tCom (sgP pt) ((ntm (tD T a)).take 40) ((ntm (tD T b)).take 40) 40 0 0 (gZ S) T).2 := fun k hk m hm => hA k (by rw [tCom_o.2] at hk; exact hk) m (by rw [tCom_o.1] at hm; exact hm)
      refine x_callV1 d_Generaliser_generalise_92 k_Tree_removeBelow l_Generaliser_70 v_Tree_removeBelow rfl s_Tree_removeBelow (by exact hT.1) RoomE.m (Nat.le_of_ble_eq_true rfl) (c_Tree_removeBelow T2 A2 (by rw [tCom_o.2]; exact ha) (fun τ3 T3 f5 => ?_))
      first | refine x_aload_n d_Generaliser_generalise_95 rfl rfl ?_ | refine x_aloadN_n d_Generaliser_generalise_95 rfl rfl ?_ | refine x_aloadE_n d_Generaliser_generalise_95 rfl rfl ?_ | refine x_aloadO_n d_Generaliser_generalise_95 rfl rfl ?_
      first | refine x_aload_n d_Generaliser_generalise_96 rfl rfl ?_ | refine x_aloadN_n d_Generaliser_generalise_96 rfl rfl ?_ | refine x_aloadE_n d_Generaliser_generalise_96 rfl rfl ?_ | refine x_aloadO_n d_Generaliser_generalise_96 rfl rfl ?_
      first | refine x_aload_n d_Generaliser_generalise_97 rfl rfl ?_ | refine x_aloadN_n d_Generaliser_generalise_97 rfl rfl ?_ | refine x_aloadE_n d_Generaliser_generalise_97 rfl rfl ?_ | refine x_aloadO_n d_Generaliser_generalise_97 rfl rfl ?_
      refine x_getR d_Generaliser_generalise_98 f_Generaliser_20 rfl (by assumption) ((S2.T f5).2.1.2.2.2.1) ?_
      refine x_callV2 d_Generaliser_generalise_101 k_Generaliser_let l_Generaliser_58 v_Generaliser_let rfl s_Generaliser_let (by assumption) RoomE.m (Nat.le_of_ble_eq_true rfl) (c_Generaliser_let T3 (S2.T f5) (sg_T (sg_gf G1 f4) f5) (by rw [(tRm_o (q := 0)).2, tCom_o.2]; exact ha) (Or.inl ⟨rfl, rfl⟩) (fun k hk => by rw [tRm_o.1, tCom_o.1]; exact Nat.le_of_lt (B2 k hk).1) (fun τ4 T4 S4 f6 => ?_))
      first | exact x_return d_Generaliser_generalise_104 rfl (by rw [tGen, if_pos c28, if_pos (bI_n0 c72)] at hQ; exact hQ _ T3 S3 (((fg.tr f4).P gf_inTG).tr f5.TG)) | exact x_return d_Generaliser_generalise_104 rfl (by rw [tGen, if_pos c28, if_neg (by rw [bI_0 c72]; decide)] at hQ; exact hQ _ T4 S4 ((((fg.tr f4).P gf_inTG).tr f5.TG).tr f6.TG))
    · first | refine x_aload_n d_Generaliser_generalise_75 rfl rfl ?_ | refine x_aloadN_n d_Generaliser_generalise_75 rfl rfl ?_ | refine x_aloadE_n d_Generaliser_generalise_75 rfl rfl ?_ | refine x_aloadO_n d_Generaliser_generalise_75 rfl rfl ?_
      first | refine x_aload_n d_Generaliser_generalise_76 rfl rfl ?_ | refine x_aloadN_n d_Generaliser_generalise_76 rfl rfl ?_ | refine x_aloadE_n d_Generaliser_generalise_76 rfl rfl ?_ | refine x_aloadO_n d_Generaliser_generalise_76 rfl rfl ?_
      first | refine x_aload_n d_Generaliser_generalise_77 rfl rfl ?_ | refine x_aloadN_n d_Generaliser_generalise_77 rfl rfl ?_ | refine x_aloadE_n d_Generaliser_generalise_77 rfl rfl ?_ | refine x_aloadO_n d_Generaliser_generalise_77 rfl rfl ?_
      refine x_getR d_Generaliser_generalise_78 f_Generaliser_24 rfl (by assumption) (S2.2.1.2.2.2.2) ?_
      refine x_callV2 d_Generaliser_generalise_81 k_Generaliser_let l_Generaliser_58 v_Generaliser_let rfl s_Generaliser_let (by assumption) RoomE.m (Nat.le_of_ble_eq_true rfl) (c_Generaliser_let T2 S2 (sg_gf G1 f4) (by rw [tCom_o.2]; exact hb) (Or.inr ⟨rfl, rfl⟩) (fun k hk => by rw [tCom_o.1]; exact Nat.le_of_lt (B2 k hk).2) (fun τ3 T3 S3 f5 => ?_))
      refine x_goto (tgt := 104) d_Generaliser_generalise_84 (by decide) ?_
      first | exact x_return d_Generaliser_generalise_104 rfl (by rw [tGen, if_pos c28, if_pos (bI_n0 c72)] at hQ; exact hQ _ T3 S3 (((fg.tr f4).P gf_inTG).tr f5.TG)) | exact x_return d_Generaliser_generalise_104 rfl (by rw [tGen, if_pos c28, if_neg (by rw [bI_0 c72]; decide)] at hQ; exact hQ _ T4 S4 ((((fg.tr f4).P gf_inTG).tr f5.TG).tr f6.TG))
  · first | refine x_aload_n d_Generaliser_generalise_31 rfl rfl ?_ | refine x_aloadN_n d_Generaliser_generalise_31 rfl rfl ?_ | refine x_aloadE_n d_Generaliser_generalise_31 rfl rfl ?_ | refine x_aloadO_n d_Generaliser_generalise_31 rfl rfl ?_
    first | refine x_aload_n d_Generaliser_generalise_32 rfl rfl ?_ | refine x_aloadN_n d_Generaliser_generalise_32 rfl rfl ?_ | refine x_aloadE_n d_Generaliser_generalise_32 rfl rfl ?_ | refine x_aloadO_n d_Generaliser_generalise_32 rfl rfl ?_
    refine x_getR d_Generaliser_generalise_33 f_Generaliser_45 rfl (by exact nb.1) ((T1.nd hbl).2.2.1.1) ?_
    refine x_callV1 d_Generaliser_generalise_36 k_Generaliser_takeApart l_Generaliser_54 v_Generaliser_takeApart rfl s_Generaliser_takeApart (by assumption) RoomE.m (Nat.le_of_ble_eq_true rfl) (c_Generaliser_takeApart T1 S1 G1 RB hgb hP hlb hfb hSB (fun τ2 T2 S2 B2 f4 => ?_))
    first | refine x_aload_n d_Generaliser_generalise_39 rfl rfl ?_ | refine x_aloadN_n d_Generaliser_generalise_39 rfl rfl ?_ | refine x_aloadE_n d_Generaliser_generalise_39 rfl rfl ?_ | refine x_aloadO_n d_Generaliser_generalise_39 rfl rfl ?_
    first | refine x_aload_n d_Generaliser_generalise_40 rfl rfl ?_ | refine x_aloadN_n d_Generaliser_generalise_40 rfl rfl ?_ | refine x_aloadE_n d_Generaliser_generalise_40 rfl rfl ?_ | refine x_aloadO_n d_Generaliser_generalise_40 rfl rfl ?_
    first | refine x_aload_n d_Generaliser_generalise_41 rfl rfl ?_ | refine x_aloadN_n d_Generaliser_generalise_41 rfl rfl ?_ | refine x_aloadE_n d_Generaliser_generalise_41 rfl rfl ?_ | refine x_aloadO_n d_Generaliser_generalise_41 rfl rfl ?_
    refine x_getR d_Generaliser_generalise_42 f_Generaliser_24 rfl (by assumption) (S2.2.1.2.2.2.2) ?_
    refine x_callV2 d_Generaliser_generalise_45 k_Generaliser_let l_Generaliser_58 v_Generaliser_let rfl s_Generaliser_let (by assumption) RoomE.m (Nat.le_of_ble_eq_true rfl) (c_Generaliser_let T2 S2 (sg_gf G1 f4) (by rw [tApart_o.2]; exact hb) (Or.inr ⟨rfl, rfl⟩) (fun k hk => by rw [tApart_o.1]; exact Nat.le_of_lt (B2 k hk).2) (fun τ3 T3 S3 f5 => ?_))
    exact x_return d_Generaliser_generalise_48 rfl (by rw [tGen, if_neg c28] at hQ; exact hQ _ T3 S3 (((fg.tr f4).P gf_inTG).tr f5.TG))
