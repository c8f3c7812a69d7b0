/-! SuperDriver: term, residual, node, allInputsAreThere, letterAt, type, forget -/
def qTm (X : CS) (n i : Int32) : Int32 := match tGet (kR X) n with
  | none => -1
  | some k => if i = -1 then nI (t40 (kR X) k).length else atI (t40 (kR X) k) i
def qRs (X : CS) (n i : Int32) : Int32 := match tGet (kR X) n with
  | none => -1
  | some k => if (tD (kR X) k).1 7 = 0 then -1 else if i = -1 then nI (r100 (kR X) k).length else atI (r100 (kR X) k) i
def qNd (X : CS) (n w : Int32) : Int32 := match tGet (kR X) n with
  | none => -1
  | some k => if w = 0 then (tD (kR X) k).1 7 else if w = 1 then (match (tD (kR X) k).2.1 3 with
    | none => -1
    | some u => nI u) else if w = 2 then (tD (kR X) k).1 8 else if w = 3 then (if (tD (kR X) k).1 10 = 0 then 0 else 1) else -1
set_option maxRecDepth 10000 in
set_option maxHeartbeats 1000000 in
theorem c_SD_term {G : Ctx} {d : Nat} {Γ : List Sh} {σ : Mem} {Q : Option Value → List Sh → Mem → Prop} {K : Nat} {X : CS} {n i : Int32}  (hX : isCS Γ σ K X) (hQ : Q (some (.int (qTm X n i))) Γ σ) : Ct G M_SD_term (d + 1) 0 0 [rf G 0, .int n, .int i] Γ σ Q := by
  obtain ⟨⟨o0, o1, o2, o3, o4, o5, o6, o7, o8, o9⟩, ⟨xt, xtl⟩, ⟨xg, xgl⟩, xi, xb, xs, xr, xT, xD, ⟨S, xG⟩, xR, ⟨ra, rb, xN⟩⟩ := id hX
  obtain ⟨-, -, -, ⟨-, t4b⟩, -⟩ := id xT
  refine Ct.of (lv := [some (rf G 0), some (.int n), some (.int i), none]) (ll := []) rfl rfl (EN.cat (n := 1) ⟨rfl, rfl, rfl, trivial⟩ (Nat.le_of_ble_eq_true rfl)) ?_
  first | refine x_aload_n d_SD_term_0 rfl rfl ?_ | refine x_aloadN_n d_SD_term_0 rfl rfl ?_ | refine x_aloadE_n d_SD_term_0 rfl rfl ?_ | refine x_aloadO_n d_SD_term_0 rfl rfl ?_
  refine x_getR d_SD_term_1 f_SD_47 rfl (by assumption) (o6) ?_
  refine x_iload_n d_SD_term_4 rfl rfl ?_
  refine x_callV1 d_SD_term_5 k_Tree_get l_SD_168 v_Tree_get rfl s_Tree_get (by exact xT.1) RoomE.m (Nat.le_of_ble_eq_true rfl) (c_Tree_get xT ?_)
  rcases hg : tGet (kR X) n with _ | k
  · show Wq _ _ _ _ _ _ _ _ [.null] _ _
    first | refine x_astore_n d_SD_term_8 rfl rfl ?_ | refine x_astoreN_n d_SD_term_8 rfl rfl ?_ | refine x_astoreE_n d_SD_term_8 rfl rfl ?_ | refine x_astoreO_n d_SD_term_8 rfl rfl ?_
    first | refine x_aload_n d_SD_term_9 rfl rfl ?_ | refine x_aloadN_n d_SD_term_9 rfl rfl ?_ | refine x_aloadE_n d_SD_term_9 rfl rfl ?_ | refine x_aloadO_n d_SD_term_9 rfl rfl ?_
    refine x_ifnonnullN d_SD_term_10 ?_
    refine x_iconst (v := -1) d_SD_term_13 (by decide) ?_
    exact x_ireturn d_SD_term_14 rfl rfl (by rw [qTm, hg] at hQ; exact hQ)
  · have hk := tGet_lt hg
    have nn := xT.nd (show k < 48 by omega)
    show Wq _ _ _ _ _ _ _ _ [rf G (133 + 5 * k)] _ _
    first | refine x_astore_n d_SD_term_8 rfl rfl ?_ | refine x_astoreN_n d_SD_term_8 rfl rfl ?_ | refine x_astoreE_n d_SD_term_8 rfl rfl ?_ | refine x_astoreO_n d_SD_term_8 rfl rfl ?_
    first | refine x_aload_n d_SD_term_9 rfl rfl ?_ | refine x_aloadN_n d_SD_term_9 rfl rfl ?_ | refine x_aloadE_n d_SD_term_9 rfl rfl ?_ | refine x_aloadO_n d_SD_term_9 rfl rfl ?_
    refine x_ifnonnull (tgt := 15) d_SD_term_10 (by decide) ?_
    refine x_iload_n d_SD_term_15 rfl rfl ?_
    refine x_iconst (v := -1) d_SD_term_16 (by decide) ?_
    refine x_icmp_ne (tgt := 30) d_SD_term_17 (by decide) (fun c17 => ?_) (fun c17 => ?_)
    · first | refine x_aload_n d_SD_term_30 rfl rfl ?_ | refine x_aloadN_n d_SD_term_30 rfl rfl ?_ | refine x_aloadE_n d_SD_term_30 rfl rfl ?_ | refine x_aloadO_n d_SD_term_30 rfl rfl ?_
      refine x_getR d_SD_term_31 f_SD_192 rfl (by exact nn.1) (nn.2.2.1.1) ?_
      refine x_iload_n d_SD_term_34 rfl rfl ?_
      refine x_callV1 d_SD_term_35 k_Row_at l_SD_195 v_Row_at rfl s_Row_at (by exact nn.2.2.2.1.1) RoomE.m (Nat.le_of_ble_eq_true rfl) (c_Row_at nn.2.2.2.1 ?_)
      exact x_ireturn d_SD_term_38 rfl rfl (by rw [qTm, hg] at hQ; first | (simp only [if_pos c17] at hQ; exact hQ) | (simp only [if_neg c17] at hQ; exact hQ))
    · first | refine x_aload_n d_SD_term_20 rfl rfl ?_ | refine x_aloadN_n d_SD_term_20 rfl rfl ?_ | refine x_aloadE_n d_SD_term_20 rfl rfl ?_ | refine x_aloadO_n d_SD_term_20 rfl rfl ?_
      refine x_getR d_SD_term_21 f_SD_192 rfl (by exact nn.1) (nn.2.2.1.1) ?_
      refine x_callV0 d_SD_term_24 k_Row_length l_SD_84 v_Row_length rfl s_Row_length (by exact nn.2.2.2.1.1) RoomE.m (Nat.le_of_ble_eq_true rfl) (c_Row_length nn.2.2.2.1 ?_)
      refine x_goto (tgt := 38) d_SD_term_27 (by decide) ?_
      exact x_ireturn d_SD_term_38 rfl rfl (by rw [qTm, hg] at hQ; first | (simp only [if_pos c17] at hQ; exact hQ) | (simp only [if_neg c17] at hQ; exact hQ))
set_option maxRecDepth 10000 in
set_option maxHeartbeats 1000000 in
theorem c_SD_residual {G : Ctx} {d : Nat} {Γ : List Sh} {σ : Mem} {Q : Option Value → List Sh → Mem → Prop} {K : Nat} {X : CS} {n i : Int32}  (hX : isCS Γ σ K X) (hQ : Q (some (.int (qRs X n i))) Γ σ) : Ct G M_SD_residual (d + 1) 0 0 [rf G 0, .int n, .int i] Γ σ Q := by
  obtain ⟨⟨o0, o1, o2, o3, o4, o5, o6, o7, o8, o9⟩, ⟨xt, xtl⟩, ⟨xg, xgl⟩, xi, xb, xs, xr, xT, xD, ⟨S, xG⟩, xR, ⟨ra, rb, xN⟩⟩ := id hX
  obtain ⟨-, -, -, ⟨-, t4b⟩, -⟩ := id xT
  refine Ct.of (lv := [some (rf G 0), some (.int n), some (.int i), none]) (ll := []) rfl rfl (EN.cat (n := 1) ⟨rfl, rfl, rfl, trivial⟩ (Nat.le_of_ble_eq_true rfl)) ?_
  first | refine x_aload_n d_SD_residual_0 rfl rfl ?_ | refine x_aloadN_n d_SD_residual_0 rfl rfl ?_ | refine x_aloadE_n d_SD_residual_0 rfl rfl ?_ | refine x_aloadO_n d_SD_residual_0 rfl rfl ?_
  refine x_getR d_SD_residual_1 f_SD_47 rfl (by assumption) (o6) ?_
  refine x_iload_n d_SD_residual_4 rfl rfl ?_
  refine x_callV1 d_SD_residual_5 k_Tree_get l_SD_168 v_Tree_get rfl s_Tree_get (by exact xT.1) RoomE.m (Nat.le_of_ble_eq_true rfl) (c_Tree_get xT ?_)
  rcases hg : tGet (kR X) n with _ | k
  · show Wq _ _ _ _ _ _ _ _ [.null] _ _
    first | refine x_astore_n d_SD_residual_8 rfl rfl ?_ | refine x_astoreN_n d_SD_residual_8 rfl rfl ?_ | refine x_astoreE_n d_SD_residual_8 rfl rfl ?_ | refine x_astoreO_n d_SD_residual_8 rfl rfl ?_
    first | refine x_aload_n d_SD_residual_9 rfl rfl ?_ | refine x_aloadN_n d_SD_residual_9 rfl rfl ?_ | refine x_aloadE_n d_SD_residual_9 rfl rfl ?_ | refine x_aloadO_n d_SD_residual_9 rfl rfl ?_
    refine x_ifnullN (tgt := 20) d_SD_residual_10 (by decide) ?_
    refine x_iconst (v := -1) d_SD_residual_20 (by decide) ?_
    exact x_ireturn d_SD_residual_21 rfl rfl (by rw [qRs, hg] at hQ; exact hQ)
  · have hk := tGet_lt hg
    have nn := xT.nd (show k < 48 by omega)
    show Wq _ _ _ _ _ _ _ _ [rf G (133 + 5 * k)] _ _
    first | refine x_astore_n d_SD_residual_8 rfl rfl ?_ | refine x_astoreN_n d_SD_residual_8 rfl rfl ?_ | refine x_astoreE_n d_SD_residual_8 rfl rfl ?_ | refine x_astoreO_n d_SD_residual_8 rfl rfl ?_
    first | refine x_aload_n d_SD_residual_9 rfl rfl ?_ | refine x_aloadN_n d_SD_residual_9 rfl rfl ?_ | refine x_aloadE_n d_SD_residual_9 rfl rfl ?_ | refine x_aloadO_n d_SD_residual_9 rfl rfl ?_
    refine x_ifnull d_SD_residual_10 ?_
    first | refine x_aload_n d_SD_residual_13 rfl rfl ?_ | refine x_aloadN_n d_SD_residual_13 rfl rfl ?_ | refine x_aloadE_n d_SD_residual_13 rfl rfl ?_ | refine x_aloadO_n d_SD_residual_13 rfl rfl ?_
    refine x_getI d_SD_residual_14 f_SD_172 rfl (by exact nn.1) ?_
    rw [show σ.1 (133 + 5 * k) 7 = (tD (kR X) k).1 7 from nn.2.1.2 7 rfl]
    refine x_if_ne (tgt := 22) d_SD_residual_17 (by decide) (fun c17 => ?_) (fun c17 => ?_)
    · refine x_iload_n d_SD_residual_22 rfl rfl ?_
      refine x_iconst (v := -1) d_SD_residual_23 (by decide) ?_
      refine x_icmp_ne (tgt := 37) d_SD_residual_24 (by decide) (fun c24 => ?_) (fun c24 => ?_)
      · first | refine x_aload_n d_SD_residual_37 rfl rfl ?_ | refine x_aloadN_n d_SD_residual_37 rfl rfl ?_ | refine x_aloadE_n d_SD_residual_37 rfl rfl ?_ | refine x_aloadO_n d_SD_residual_37 rfl rfl ?_
        refine x_getR d_SD_residual_38 f_SD_198 rfl (by exact nn.1) (nn.2.2.1.2.1) ?_
        refine x_iload_n d_SD_residual_41 rfl rfl ?_
        refine x_callV1 d_SD_residual_42 k_Row_at l_SD_195 v_Row_at rfl s_Row_at (by exact nn.2.2.2.2.1) RoomE.m (Nat.le_of_ble_eq_true rfl) (c_Row_at nn.2.2.2.2 ?_)
        exact x_ireturn d_SD_residual_45 rfl rfl (by rw [qRs, hg] at hQ; simp only [if_neg c17] at hQ; first | (rw [if_pos c24] at hQ; exact hQ) | (rw [if_neg c24] at hQ; exact hQ))
      · first | refine x_aload_n d_SD_residual_27 rfl rfl ?_ | refine x_aloadN_n d_SD_residual_27 rfl rfl ?_ | refine x_aloadE_n d_SD_residual_27 rfl rfl ?_ | refine x_aloadO_n d_SD_residual_27 rfl rfl ?_
        refine x_getR d_SD_residual_28 f_SD_198 rfl (by exact nn.1) (nn.2.2.1.2.1) ?_
        refine x_callV0 d_SD_residual_31 k_Row_length l_SD_84 v_Row_length rfl s_Row_length (by exact nn.2.2.2.2.1) RoomE.m (Nat.le_of_ble_eq_true rfl) (c_Row_length nn.2.2.2.2 ?_)
        refine x_goto (tgt := 45) d_SD_residual_34 (by decide) ?_
        exact x_ireturn d_SD_residual_45 rfl rfl (by rw [qRs, hg] at hQ; simp only [if_neg c17] at hQ; first | (rw [if_pos c24] at hQ; exact hQ) | (rw [if_neg c24] at hQ; exact hQ))
    · refine x_iconst (v := -1) d_SD_residual_20 (by decide) ?_
      exact x_ireturn d_SD_residual_21 rfl rfl (by rw [qRs, hg] at hQ; simp only [if_pos c17] at hQ; exact hQ)
theorem tsw3 (x : Int32) : (x.toInt < 0 ∨ 3 < x.toInt) ∨ x = 0 ∨ x = 1 ∨ x = 2 ∨ x = 3 := by
  by_cases h : x.toInt < 0 ∨ 3 < x.toInt
  · exact Or.inl h
  · right
    have h1 : x.toInt = 0 ∨ x.toInt = 1 ∨ x.toInt = 2 ∨ x.toInt = 3 := by omega
    rcases h1 with h | h | h | h
    · exact Or.inl (Int32.toInt_inj.mp (h.trans (by decide)))
    · exact Or.inr (Or.inl (Int32.toInt_inj.mp (h.trans (by decide))))
    · exact Or.inr (Or.inr (Or.inl (Int32.toInt_inj.mp (h.trans (by decide)))))
    · exact Or.inr (Or.inr (Or.inr (Int32.toInt_inj.mp (h.trans (by decide)))))
set_option maxRecDepth 10000 in
set_option maxHeartbeats 1000000 in
theorem c_SD_node {G : Ctx} {d : Nat} {Γ : List Sh} {σ : Mem} {Q : Option Value → List Sh → Mem → Prop} {K : Nat} {X : CS} {n w : Int32}  (hX : isCS Γ σ K X) (hQ : Q (some (.int (qNd X n w))) Γ σ) : Ct G M_SD_node (d + 1) 0 0 [rf G 0, .int n, .int w] Γ σ Q := by
  obtain ⟨⟨o0, o1, o2, o3, o4, o5, o6, o7, o8, o9⟩, ⟨xt, xtl⟩, ⟨xg, xgl⟩, xi, xb, xs, xr, xT, xD, ⟨S, xG⟩, xR, ⟨ra, rb, xN⟩⟩ := id hX
  obtain ⟨-, -, -, ⟨-, t4b⟩, -⟩ := id xT
  refine Ct.of (lv := [some (rf G 0), some (.int n), some (.int w), none]) (ll := []) rfl rfl (EN.cat (n := 1) ⟨rfl, rfl, rfl, trivial⟩ (Nat.le_of_ble_eq_true rfl)) ?_
  first | refine x_aload_n d_SD_node_0 rfl rfl ?_ | refine x_aloadN_n d_SD_node_0 rfl rfl ?_ | refine x_aloadE_n d_SD_node_0 rfl rfl ?_ | refine x_aloadO_n d_SD_node_0 rfl rfl ?_
  refine x_getR d_SD_node_1 f_SD_47 rfl (by assumption) (o6) ?_
  refine x_iload_n d_SD_node_4 rfl rfl ?_
  refine x_callV1 d_SD_node_5 k_Tree_get l_SD_168 v_Tree_get rfl s_Tree_get (by exact xT.1) RoomE.m (Nat.le_of_ble_eq_true rfl) (c_Tree_get xT ?_)
  rcases hg : tGet (kR X) n with _ | k
  · show Wq _ _ _ _ _ _ _ _ [.null] _ _
    first | refine x_astore_n d_SD_node_8 rfl rfl ?_ | refine x_astoreN_n d_SD_node_8 rfl rfl ?_ | refine x_astoreE_n d_SD_node_8 rfl rfl ?_ | refine x_astoreO_n d_SD_node_8 rfl rfl ?_
    first | refine x_aload_n d_SD_node_9 rfl rfl ?_ | refine x_aloadN_n d_SD_node_9 rfl rfl ?_ | refine x_aloadE_n d_SD_node_9 rfl rfl ?_ | refine x_aloadO_n d_SD_node_9 rfl rfl ?_
    refine x_ifnonnullN d_SD_node_10 ?_
    refine x_iconst (v := -1) d_SD_node_13 (by decide) ?_
    exact x_ireturn d_SD_node_14 rfl rfl (by rw [qNd, hg] at hQ; exact hQ)
  · have hk := tGet_lt hg
    have nn := xT.nd (show k < 48 by omega)
    show Wq _ _ _ _ _ _ _ _ [rf G (133 + 5 * k)] _ _
    first | refine x_astore_n d_SD_node_8 rfl rfl ?_ | refine x_astoreN_n d_SD_node_8 rfl rfl ?_ | refine x_astoreE_n d_SD_node_8 rfl rfl ?_ | refine x_astoreO_n d_SD_node_8 rfl rfl ?_
    first | refine x_aload_n d_SD_node_9 rfl rfl ?_ | refine x_aloadN_n d_SD_node_9 rfl rfl ?_ | refine x_aloadE_n d_SD_node_9 rfl rfl ?_ | refine x_aloadO_n d_SD_node_9 rfl rfl ?_
    refine x_ifnonnull (tgt := 15) d_SD_node_10 (by decide) ?_
    refine x_iload_n d_SD_node_15 rfl rfl ?_
    rcases tsw3 w with h | rfl | rfl | rfl | rfl
    · refine x_tblOut (tgt := 90) d_SD_node_16 h (by decide) ?_
      have hne : ∀ z : Int32, (0 ≤ z.toInt ∧ z.toInt ≤ 3) → ¬ w = z := fun z hz e => by rw [e] at h; omega
      refine x_iconst (v := -1) d_SD_node_90 (by decide) ?_
      exact x_ireturn d_SD_node_91 rfl rfl (by rw [qNd, hg] at hQ; simp only [if_neg (hne 0 (by decide)), if_neg (hne 1 (by decide)), if_neg (hne 2 (by decide)), if_neg (hne 3 (by decide))] at hQ; exact hQ)
    · refine x_tblIn (tgt := 48) d_SD_node_16 (by decide) (by decide) rfl (by decide) ?_
      first | refine x_aload_n d_SD_node_48 rfl rfl ?_ | refine x_aloadN_n d_SD_node_48 rfl rfl ?_ | refine x_aloadE_n d_SD_node_48 rfl rfl ?_ | refine x_aloadO_n d_SD_node_48 rfl rfl ?_
      refine x_getI d_SD_node_49 f_SD_172 rfl (by exact nn.1) ?_
      exact x_ireturn d_SD_node_52 rfl rfl (by rw [show σ.1 (133 + 5 * k) 7 = (tD (kR X) k).1 7 from nn.2.1.2 7 rfl]; rw [qNd, hg] at hQ; simp only [if_true] at hQ; exact hQ)
    · refine x_tblIn (tgt := 53) d_SD_node_16 (by decide) (by decide) rfl (by decide) ?_
      first | refine x_aload_n d_SD_node_53 rfl rfl ?_ | refine x_aloadN_n d_SD_node_53 rfl rfl ?_ | refine x_aloadE_n d_SD_node_53 rfl rfl ?_ | refine x_aloadO_n d_SD_node_53 rfl rfl ?_
      refine x_getQ d_SD_node_54 f_SD_178 rfl (by exact nn.1) ((nn.2.2.1.2.2 3 rfl).1) ?_
      rcases ho : (tD (kR X) k).2.1 3 with _ | u
      · show Wq _ _ _ _ _ _ _ _ [.null] _ _
        refine x_ifnonnullN d_SD_node_57 ?_
        refine x_iconst (v := -1) d_SD_node_60 (by decide) ?_
        refine x_goto (tgt := 71) d_SD_node_61 (by decide) ?_
        exact x_ireturn d_SD_node_71 rfl rfl (by rw [qNd, hg] at hQ; simp only [if_neg (show ¬ (1 : Int32) = 0 by decide), if_true, ho] at hQ; exact hQ)
      · show Wq _ _ _ _ _ _ _ _ [rf G (133 + 5 * u)] _ _
        have uu := xT.nd ((nn.2.2.1.2.2 3 rfl).2 _ ho)
        refine x_ifnonnull (tgt := 64) d_SD_node_57 (by decide) ?_
        first | refine x_aload_n d_SD_node_64 rfl rfl ?_ | refine x_aloadN_n d_SD_node_64 rfl rfl ?_ | refine x_aloadE_n d_SD_node_64 rfl rfl ?_ | refine x_aloadO_n d_SD_node_64 rfl rfl ?_
        refine x_getQ d_SD_node_65 f_SD_178 rfl (by exact nn.1) ((nn.2.2.1.2.2 3 rfl).1.trans (by rw [ho])) ?_
        refine x_getI d_SD_node_68 f_SD_182 rfl (by exact uu.1) ?_
        exact x_ireturn d_SD_node_71 rfl rfl (by rw [show σ.1 (nc u) 0 = nI u from uu.2.1.1]; rw [qNd, hg] at hQ; simp only [if_neg (show ¬ (1 : Int32) = 0 by decide), if_true, ho] at hQ; exact hQ)
    · refine x_tblIn (tgt := 72) d_SD_node_16 (by decide) (by decide) rfl (by decide) ?_
      first | refine x_aload_n d_SD_node_72 rfl rfl ?_ | refine x_aloadN_n d_SD_node_72 rfl rfl ?_ | refine x_aloadE_n d_SD_node_72 rfl rfl ?_ | refine x_aloadO_n d_SD_node_72 rfl rfl ?_
      refine x_getI d_SD_node_73 f_SD_185 rfl (by exact nn.1) ?_
      exact x_ireturn d_SD_node_76 rfl rfl (by rw [show σ.1 (133 + 5 * k) 8 = (tD (kR X) k).1 8 from nn.2.1.2 8 rfl]; rw [qNd, hg] at hQ; simp only [if_neg (show ¬ (2 : Int32) = 0 by decide), if_neg (show ¬ (2 : Int32) = 1 by decide), if_true] at hQ; exact hQ)
    · refine x_tblIn (tgt := 77) d_SD_node_16 (by decide) (by decide) rfl (by decide) ?_
      first | refine x_aload_n d_SD_node_77 rfl rfl ?_ | refine x_aloadN_n d_SD_node_77 rfl rfl ?_ | refine x_aloadE_n d_SD_node_77 rfl rfl ?_ | refine x_aloadO_n d_SD_node_77 rfl rfl ?_
      refine x_getI d_SD_node_78 f_SD_188 rfl (by exact nn.1) ?_
      rw [show σ.1 (133 + 5 * k) 10 = (tD (kR X) k).1 10 from nn.2.1.2 10 rfl]
      refine x_if_eq (tgt := 88) d_SD_node_81 (by decide) (fun c81 => ?_) (fun c81 => ?_)
      · refine x_iconst (v := 0) d_SD_node_88 (by decide) ?_
        exact x_ireturn d_SD_node_89 rfl rfl (by rw [qNd, hg] at hQ; simp only [if_neg (show ¬ (3 : Int32) = 0 by decide), if_neg (show ¬ (3 : Int32) = 1 by decide), if_neg (show ¬ (3 : Int32) = 2 by decide), if_true] at hQ; first | (rw [if_pos c81] at hQ; exact hQ) | (rw [if_neg c81] at hQ; exact hQ))
      · refine x_iconst (v := 1) d_SD_node_84 (by decide) ?_
        refine x_goto (tgt := 89) d_SD_node_85 (by decide) ?_
        exact x_ireturn d_SD_node_89 rfl rfl (by rw [qNd, hg] at hQ; simp only [if_neg (show ¬ (3 : Int32) = 0 by decide), if_neg (show ¬ (3 : Int32) = 1 by decide), if_neg (show ¬ (3 : Int32) = 2 by decide), if_true] at hQ; first | (rw [if_pos c81] at hQ; exact hQ) | (rw [if_neg c81] at hQ; exact hQ))
def inp1 (ins : Nat → List Int32) (s : Int32) : Bool := if s < 0 then true else if 8 ≤ s then true else !decide ((ins s.toNatClampNeg).length = 0)
def aInp (X : CS) : Bool := (kG X).all (inp1 (kI X))
set_option maxRecDepth 10000 in
set_option maxHeartbeats 1000000 in
theorem c_SD_allInputsAreThere {G : Ctx} {d : Nat} {Γ : List Sh} {σ : Mem} {Q : Option Value → List Sh → Mem → Prop} {K : Nat} {X : CS}  (hX : isCS Γ σ K X) (hQ : Q (some (.int (bI (aInp X)))) Γ σ) : Ct G M_SD_allInputsAreThere (d + 1) 0 0 [rf G 0] Γ σ Q := by
  obtain ⟨⟨o0, o1, o2, o3, o4, o5, o6, o7, o8, o9⟩, ⟨xt, xtl⟩, ⟨xg, xgl⟩, xi, xb, xs, xr, xT, xD, ⟨S, xG⟩, xR, ⟨ra, rb, xN⟩⟩ := id hX
  have lp : ∀ (k : Nat) (i : Nat), i + k = (kG X).length → ((kG X).drop i).all (inp1 (kI X)) = aInp X → Wq G M_SD_allInputsAreThere (Em G (d + 1) 0 0 Q) 0 0 2 [some (rf G 0), some (.int (nI i)), none] [] [] Γ σ := by
    intro k
    induction k with
    | zero =>
      intro i h1 h2
      refine x_iload_n d_SD_allInputsAreThere_2 rfl rfl ?_
      first | refine x_aload_n d_SD_allInputsAreThere_3 rfl rfl ?_ | refine x_aloadN_n d_SD_allInputsAreThere_3 rfl rfl ?_ | refine x_aloadE_n d_SD_allInputsAreThere_3 rfl rfl ?_ | refine x_aloadO_n d_SD_allInputsAreThere_3 rfl rfl ?_
      refine x_getR d_SD_allInputsAreThere_4 f_SD_18 rfl (by assumption) (o2) ?_
      refine x_callV0 d_SD_allInputsAreThere_7 k_Row_length l_SD_84 v_Row_length rfl s_Row_length (by exact xg.1) RoomE.m (Nat.le_of_ble_eq_true rfl) (c_Row_length xg ?_)
      rw [len24 xgl]
      refine x_icmp_ge (tgt := 52) d_SD_allInputsAreThere_10 (by decide) (fun c10 => ?_) (fun c10 => ?_)
      · refine x_iconst (v := 1) d_SD_allInputsAreThere_52 (by decide) ?_
        exact x_ireturn d_SD_allInputsAreThere_53 rfl (by decide) (by rw [List.drop_eq_nil_of_le (by omega), List.all_nil] at h2; rw [← h2] at hQ; exact hQ)
      · exact absurd (nI_le (by omega) (by omega)) c10
    | succ k ih =>
      intro i h1 h2
      have hil : i < (kG X).length := by omega
      refine x_iload_n d_SD_allInputsAreThere_2 rfl rfl ?_
      first | refine x_aload_n d_SD_allInputsAreThere_3 rfl rfl ?_ | refine x_aloadN_n d_SD_allInputsAreThere_3 rfl rfl ?_ | refine x_aloadE_n d_SD_allInputsAreThere_3 rfl rfl ?_ | refine x_aloadO_n d_SD_allInputsAreThere_3 rfl rfl ?_
      refine x_getR d_SD_allInputsAreThere_4 f_SD_18 rfl (by assumption) (o2) ?_
      refine x_callV0 d_SD_allInputsAreThere_7 k_Row_length l_SD_84 v_Row_length rfl s_Row_length (by exact xg.1) RoomE.m (Nat.le_of_ble_eq_true rfl) (c_Row_length xg ?_)
      rw [len24 xgl]
      refine x_icmp_ge (tgt := 52) d_SD_allInputsAreThere_10 (by decide) (fun c10 => ?_) (fun c10 => ?_)
      · rw [nI_leI (by omega) (by omega)] at c10; omega
      · first | refine x_aload_n d_SD_allInputsAreThere_13 rfl rfl ?_ | refine x_aloadN_n d_SD_allInputsAreThere_13 rfl rfl ?_ | refine x_aloadE_n d_SD_allInputsAreThere_13 rfl rfl ?_ | refine x_aloadO_n d_SD_allInputsAreThere_13 rfl rfl ?_
        refine x_getR d_SD_allInputsAreThere_14 f_SD_18 rfl (by assumption) (o2) ?_
        refine x_iload_n d_SD_allInputsAreThere_17 rfl rfl ?_
        refine x_callV1 d_SD_allInputsAreThere_18 k_Row_at l_SD_195 v_Row_at rfl s_Row_at (by exact xg.1) RoomE.m (Nat.le_of_ble_eq_true rfl) (c_Row_at xg ?_)
        rw [atI_nI (by omega), tk24 xgl]
        refine x_istore_n d_SD_allInputsAreThere_21 rfl rfl ?_
        refine x_iload_n d_SD_allInputsAreThere_22 rfl rfl ?_
        refine x_if_lt (tgt := 46) d_SD_allInputsAreThere_23 (by decide) (fun c23 => ?_) (fun c23 => ?_)
        · refine x_iinc (v := nI (i + 1)) d_SD_allInputsAreThere_46 rfl (nI_1 i) rfl ?_
          refine x_goto (tgt := 2) d_SD_allInputsAreThere_49 (by decide) ?_
          exact Wq.fg (ih (i + 1) (by omega) (by rw [drop_cons hil, List.all_cons, inp1, if_pos c23, Bool.true_and] at h2; exact h2)) ⟨rfl, rfl, trivial⟩
        · refine x_iload_n d_SD_allInputsAreThere_26 rfl rfl ?_
          refine x_bipush (v := 8) d_SD_allInputsAreThere_27 (by decide) ?_
          refine x_icmp_ge (tgt := 46) d_SD_allInputsAreThere_29 (by decide) (fun c29 => ?_) (fun c29 => ?_)
          · refine x_iinc (v := nI (i + 1)) d_SD_allInputsAreThere_46 rfl (nI_1 i) rfl ?_
            refine x_goto (tgt := 2) d_SD_allInputsAreThere_49 (by decide) ?_
            exact Wq.fg (ih (i + 1) (by omega) (by rw [drop_cons hil, List.all_cons, inp1, if_neg c23, if_pos c29, Bool.true_and] at h2; exact h2)) ⟨rfl, rfl, trivial⟩
          · have h8 : ((kG X).getD i (-1)).toNatClampNeg < 8 := Nat.not_le.mp fun z => c29 ((clamp_lt (n := 8) c23 (by decide)).mpr z)
            first | refine x_aload_n d_SD_allInputsAreThere_32 rfl rfl ?_ | refine x_aloadN_n d_SD_allInputsAreThere_32 rfl rfl ?_ | refine x_aloadE_n d_SD_allInputsAreThere_32 rfl rfl ?_ | refine x_aloadO_n d_SD_allInputsAreThere_32 rfl rfl ?_
            refine x_getR d_SD_allInputsAreThere_33 f_SD_21 rfl (by assumption) (o3) ?_
            refine x_iload_n d_SD_allInputsAreThere_36 rfl rfl ?_
            refine x_aald d_SD_allInputsAreThere_37 (by exact xi.1) (by decide) (fun z => z.elim c23 (fun z => absurd z (by omega))) ((xi.2 _ h8).1) ?_
            refine x_callV0 d_SD_allInputsAreThere_38 k_Row_isEmpty l_SD_142 v_Row_isEmpty rfl s_Row_isEmpty (by exact (xi.2 _ h8).2.1.1) RoomE.m (Nat.le_of_ble_eq_true rfl) (c_Row_isEmpty (xi.2 _ h8).2.1 ?_)
            rw [len24 (xi.2 _ h8).2.2]
            refine x_if_eq (tgt := 46) d_SD_allInputsAreThere_41 (by decide) (fun c41 => ?_) (fun c41 => ?_)
            · refine x_iinc (v := nI (i + 1)) d_SD_allInputsAreThere_46 rfl (nI_1 i) rfl ?_
              refine x_goto (tgt := 2) d_SD_allInputsAreThere_49 (by decide) ?_
              exact Wq.fg (ih (i + 1) (by omega) (by rw [drop_cons hil, List.all_cons, inp1, if_neg c23, if_neg c29, bI_0 c41, Bool.not_false, Bool.true_and] at h2; exact h2)) ⟨rfl, rfl, trivial⟩
            · refine x_iconst (v := 0) d_SD_allInputsAreThere_44 (by decide) ?_
              exact x_ireturn d_SD_allInputsAreThere_45 rfl (by decide) (by rw [drop_cons hil, List.all_cons, inp1, if_neg c23, if_neg c29, bI_n0 c41, Bool.not_true, Bool.false_and] at h2; rw [← h2] at hQ; exact hQ)
  refine Ct.of (lv := [some (rf G 0), none, none]) (ll := []) rfl rfl (EN.cat (n := 2) ⟨rfl, trivial⟩ (Nat.le_of_ble_eq_true rfl)) ?_
  refine x_iconst (v := 0) d_SD_allInputsAreThere_0 (by decide) ?_
  refine x_istore_n d_SD_allInputsAreThere_1 rfl rfl ?_
  exact Wq.fg (lp (kG X).length 0 (by omega) rfl) ⟨rfl, by rw [nI_0], trivial⟩
def ltr (v : Int64) (s : Int32) : Int32 := ((v.toUInt64 >>> (s.toInt64.toUInt64 &&& Int64.toUInt64 63)).toInt64).toInt32 &&& 255
def ltrs (v : Int64) : Nat → List Int32
  | 0 => []
  | k + 1 => if ltr v (nI (8 * k)) = 0 then ltrs v k else ltr v (nI (8 * k)) :: ltrs v k
theorem ltrs_le (v : Int64) : ∀ k, (ltrs v k).length ≤ k
  | 0 => Nat.le_refl _
  | k + 1 => by
    unfold ltrs
    have := ltrs_le v k
    split
    · omega
    · rw [List.length_cons]; omega
def typOK (tx : List Int32) (v : Int64) : Bool := (ltrs v 8).all (fun c => decide (sgn c ≠ -1)) && decide (tx.length + (ltrs v 8).length ≤ 24)
def csTyp (X : CS) (v : Int64) : CS := if typOK (kT X) v = true then (kT X ++ (ltrs v 8).map sgn, X.2) else X
theorem nI_d8 (k : Nat) : nI (8 * (k + 1)) - 8 = nI (8 * k) := by
  have : nI (8 * (k + 1)) = nI (8 * k) + nI 8 := by rw [nI_add]; congr 1
  rw [this]
  exact Int32.add_sub_cancel _ _
theorem neg8 : (nI (8 * 0) - 8 : Int32) < 0 := by decide
set_option maxRecDepth 10000 in
set_option maxHeartbeats 1000000 in
theorem c_SD_letterAt {G : Ctx} {d : Nat} {Γ : List Sh} {σ : Mem} {Q : Option Value → List Sh → Mem → Prop} {v : Int64} {s : Int32} (hQ : Q (some (.int (ltr v s))) Γ σ) : Ct G M_SD_letterAt d 0 0 [.long v, .int s] Γ σ Q := by
  refine Ct.of (lv := [none, none, some (.int s)]) (ll := [(0, v)]) rfl rfl ⟨Nat.le_of_ble_eq_true rfl, fun i w h => ?_, fun q hq => ?_⟩ ?_
  · match i, h with
    | 2, h => cases h; exact ⟨by simp [lv_args, Value.category], rfl⟩
  · rw [List.mem_singleton.mp hq]; simp [lv_args]
  refine x_lload_n d_SD_letterAt_0 rfl (by first | exact .head _ | exact .tail _ (.head _) | simp) ?_
  refine x_iload_n d_SD_letterAt_1 rfl rfl ?_
  refine x_lushr d_SD_letterAt_2 ?_
  refine x_l2i d_SD_letterAt_3 ?_
  refine x_sipush (v := 255) d_SD_letterAt_4 (by decide) ?_
  refine x_iand d_SD_letterAt_7 ?_
  exact x_ireturn d_SD_letterAt_8 rfl rfl hQ
set_option maxRecDepth 10000 in
set_option maxHeartbeats 1000000 in
theorem c_SD_type {G : Ctx} {d : Nat} {Γ : List Sh} {σ : Mem} {Q : Option Value → List Sh → Mem → Prop} {K : Nat} {X : CS} {v : Int64} (hX : isCS Γ σ K X) (hQ : ∀ σ', isCS Γ σ' K (csTyp X v) → FrP inCS σ σ' → Q (some (.int (bI (typOK (kT X) v)))) Γ σ') : Ct G M_SD_type (d + 1) 0 0 [rf G 0, .long v] Γ σ Q := by
  obtain ⟨⟨o0, o1, o2, o3, o4, o5, o6, o7, o8, o9⟩, ⟨xt, xtl⟩, ⟨xg, xgl⟩, xi, xb, xs, xr, xT, xD, ⟨S, xG⟩, xR, ⟨ra, rb, xN⟩⟩ := id hX
  have lp2 : typOK (kT X) v = true → ∀ (k : Nat) (l : List Int32) (τ : Mem), l ++ (ltrs v k).map sgn = kT X ++ (ltrs v 8).map sgn → isRow Γ τ 1 24 l → FrI [1, 1 + 1] σ τ → k ≤ 8 → Wq G M_SD_type (Em G (d + 1) 0 0 Q) 0 0 64 [some (rf G 0), none, none, none, some (.int (nI (8 * k) - 8)), none] [(1, v)] [] Γ τ := by
    intro hyes k
    have hlen : (kT X).length + (ltrs v 8).length ≤ 24 := of_decide_eq_true (Bool.and_eq_true_iff.mp hyes).2
    induction k with
    | zero =>
      intro l τ h2 r1 f0 _
      refine x_iload d_SD_type_64 rfl ?_
      refine x_if_lt (tgt := 100) d_SD_type_66 (by decide) (fun c66 => ?_) (fun c66 => ?_)
      · refine x_iconst (v := 1) d_SD_type_100 (by decide) ?_
        exact x_ireturn d_SD_type_101 rfl (by decide) (by
          have e1 : ltrs v 0 = [] := rfl
          rw [e1, List.map_nil, List.append_nil] at h2
          have hq := hQ τ (by
            rw [csTyp, if_pos hyes, ← h2]
            exact hX.text f0 r1 (by rw [h2, List.length_append, List.length_map]; omega)) (f0.P (by simp [inCS]))
          rw [hyes] at hq
          exact hq)
      · exact absurd neg8 c66
    | succ k ih2 =>
      intro l τ h2 r1 f0 hk8
      rw [nI_d8]
      refine x_iload d_SD_type_64 rfl ?_
      refine x_if_lt (tgt := 100) d_SD_type_66 (by decide) (fun c66 => ?_) (fun c66 => ?_)
      · exact absurd c66 (nI_nneg _ (by omega))
      · refine x_lload_n d_SD_type_69 rfl (by first | exact .head _ | exact .tail _ (.head _) | simp) ?_
        refine x_iload d_SD_type_70 rfl ?_
        refine x_callS2 d_SD_type_72 k_SD_letterAt l_SD_76 z_SD_letterAt RoomE.m (Nat.le_of_ble_eq_true rfl) (c_SD_letterAt ?_)
        refine x_istore d_SD_type_75 rfl ?_
        refine x_iload d_SD_type_77 rfl ?_
        refine x_if_eq (tgt := 94) d_SD_type_79 (by decide) (fun c79 => ?_) (fun c79 => ?_)
        · refine x_iinc (v := nI (8 * k) - 8) d_SD_type_94 rfl (by rw [Int32.sub_eq_add_neg]; rfl) rfl ?_
          refine x_goto (tgt := 64) d_SD_type_97 (by decide) ?_
          exact Wq.fgl (ih2 l τ (by rw [ltrs, if_pos c79] at h2; exact h2) r1 f0 (by omega)) ⟨rfl, rfl, trivial⟩ (fun q hq => by rw [List.mem_singleton.mp hq]; exact .head _)
        · first | refine x_aload_n d_SD_type_82 rfl rfl ?_ | refine x_aloadN_n d_SD_type_82 rfl rfl ?_ | refine x_aloadE_n d_SD_type_82 rfl rfl ?_ | refine x_aloadO_n d_SD_type_82 rfl rfl ?_
          refine x_getR d_SD_type_83 f_SD_14 rfl (by assumption) (by rw [f0.1]; exact o1) ?_
          refine x_iload d_SD_type_86 rfl ?_
          refine x_callS1 d_SD_type_88 k_SD_signOf l_SD_80 z_SD_signOf RoomE.m (Nat.le_of_ble_eq_true rfl) (c_SD_signOf ?_)
          refine x_callV1 d_SD_type_91 k_Row_add l_SD_88 v_Row_add rfl s_Row_add (by exact xt.1) RoomE.m (Nat.le_of_ble_eq_true rfl) (c_Row_add r1 (fun τ2 r2 f2 => ?_))
          refine x_iinc (v := nI (8 * k) - 8) d_SD_type_94 rfl (by rw [Int32.sub_eq_add_neg]; rfl) rfl ?_
          refine x_goto (tgt := 64) d_SD_type_97 (by decide) ?_
          exact Wq.fgl (ih2 _ τ2 (by rw [ltrs, if_neg c79, List.map_cons] at h2; rw [List.append_assoc]; exact h2) r2 (f0.tr f2) (by omega)) ⟨rfl, rfl, trivial⟩ (fun q hq => by rw [List.mem_singleton.mp hq]; exact .head _)
  have lp : ∀ (k c : Nat), (ltrs v k).all (fun c => decide (sgn c ≠ -1)) = (ltrs v 8).all (fun c => decide (sgn c ≠ -1)) → c + (ltrs v k).length = (ltrs v 8).length → k ≤ 8 → Wq G M_SD_type (Em G (d + 1) 0 0 Q) 0 0 6 [some (rf G 0), none, none, some (.int (nI c)), some (.int (nI (8 * k) - 8)), none] [(1, v)] [] Γ σ := by
    intro k
    have hl8 := ltrs_le v 8
    induction k with
    | zero =>
      intro c h2 h3 _
      refine x_iload d_SD_type_6 rfl ?_
      refine x_if_lt (tgt := 44) d_SD_type_8 (by decide) (fun c8 => ?_) (fun c8 => ?_)
      · first | refine x_aload_n d_SD_type_44 rfl rfl ?_ | refine x_aloadN_n d_SD_type_44 rfl rfl ?_ | refine x_aloadE_n d_SD_type_44 rfl rfl ?_ | refine x_aloadO_n d_SD_type_44 rfl rfl ?_
        refine x_getR d_SD_type_45 f_SD_14 rfl (by assumption) (o1) ?_
        refine x_callV0 d_SD_type_48 k_Row_length l_SD_84 v_Row_length rfl s_Row_length (by exact xt.1) RoomE.m (Nat.le_of_ble_eq_true rfl) (c_Row_length xt ?_)
        rw [len24 xtl]
        refine x_iload_n d_SD_type_51 rfl rfl ?_
        refine x_iadd d_SD_type_52 ?_
        rw [nI_add]
        refine x_bipush (v := 24) d_SD_type_53 (by decide) ?_
        refine x_icmp_le (tgt := 60) d_SD_type_55 (by decide) (fun c55 => ?_) (fun c55 => ?_)
        · refine x_bipush (v := 56) d_SD_type_60 (by decide) ?_
          refine x_istore d_SD_type_62 rfl ?_
          have hyes : typOK (kT X) v = true := by
            have e1 : ltrs v 0 = [] := rfl
            rw [e1] at h2 h3
            rw [typOK, ← h2]
            have h9 : (kT X).length + c ≤ 24 := (nI_leI (b := 24) (by omega) (by decide)).mp c55
            have h10 : (kT X).length + (ltrs v 8).length ≤ 24 := by have := h3; simp at this; omega
            simp [h10]
          exact Wq.fgl (lp2 hyes 8 (kT X) σ rfl xt FrI.rf (by omega)) ⟨rfl, by decide, trivial⟩ (fun q hq => by rw [List.mem_singleton.mp hq]; exact .head _)
        · refine x_iconst (v := 0) d_SD_type_58 (by decide) ?_
          exact x_ireturn d_SD_type_59 rfl (by decide) (by
            have hno : typOK (kT X) v = false := by
              rw [typOK, Bool.and_eq_false_iff]
              right
              have e1 : ltrs v 0 = [] := rfl
              rw [e1] at h3
              have h9 : ¬ (kT X).length + c ≤ 24 := fun z => c55 (nI_le (b := 24) z (by decide))
              exact decide_eq_false (by have := h3; simp at this; omega)
            have hq := hQ σ (by rw [csTyp, hno, if_neg (by decide)]; exact hX) FrP.rf
            rw [hno] at hq
            exact hq)
      · exact absurd neg8 c8
    | succ k ih =>
      intro c h2 h3 hk8
      have hlk := ltrs_le v k
      rw [nI_d8]
      refine x_iload d_SD_type_6 rfl ?_
      refine x_if_lt (tgt := 44) d_SD_type_8 (by decide) (fun c8 => ?_) (fun c8 => ?_)
      · exact absurd c8 (nI_nneg _ (by omega))
      · refine x_lload_n d_SD_type_11 rfl (by first | exact .head _ | exact .tail _ (.head _) | simp) ?_
        refine x_iload d_SD_type_12 rfl ?_
        refine x_callS2 d_SD_type_14 k_SD_letterAt l_SD_76 z_SD_letterAt RoomE.m (Nat.le_of_ble_eq_true rfl) (c_SD_letterAt ?_)
        refine x_istore d_SD_type_17 rfl ?_
        refine x_iload d_SD_type_19 rfl ?_
        refine x_if_eq (tgt := 38) d_SD_type_21 (by decide) (fun c21 => ?_) (fun c21 => ?_)
        · refine x_iinc (v := nI (8 * k) - 8) d_SD_type_38 rfl (by rw [Int32.sub_eq_add_neg]; rfl) rfl ?_
          refine x_goto (tgt := 6) d_SD_type_41 (by decide) ?_
          exact Wq.fgl (ih c (by rw [ltrs, if_pos c21] at h2; exact h2) (by rw [ltrs, if_pos c21] at h3; exact h3) (by omega)) ⟨rfl, rfl, rfl, trivial⟩ (fun q hq => by rw [List.mem_singleton.mp hq]; exact .head _)
        · refine x_iload d_SD_type_24 rfl ?_
          refine x_callS1 d_SD_type_26 k_SD_signOf l_SD_80 z_SD_signOf RoomE.m (Nat.le_of_ble_eq_true rfl) (c_SD_signOf ?_)
          refine x_iconst (v := -1) d_SD_type_29 (by decide) ?_
          refine x_icmp_ne (tgt := 35) d_SD_type_30 (by decide) (fun c30 => ?_) (fun c30 => ?_)
          · refine x_iinc (v := nI (c + 1)) d_SD_type_35 rfl (nI_1 c) rfl ?_
            refine x_iinc (v := nI (8 * k) - 8) d_SD_type_38 rfl (by rw [Int32.sub_eq_add_neg]; rfl) rfl ?_
            refine x_goto (tgt := 6) d_SD_type_41 (by decide) ?_
            exact Wq.fgl (ih (c + 1) (by rw [ltrs, if_neg c21, List.all_cons, decide_eq_true c30, Bool.true_and] at h2; exact h2) (by rw [ltrs, if_neg c21, List.length_cons] at h3; omega) (by omega)) ⟨rfl, rfl, rfl, trivial⟩ (fun q hq => by rw [List.mem_singleton.mp hq]; exact .head _)
          · refine x_iconst (v := 0) d_SD_type_33 (by decide) ?_
            exact x_ireturn d_SD_type_34 rfl (by decide) (by
              have hno : typOK (kT X) v = false := by
                rw [typOK, Bool.and_eq_false_iff]
                left
                rw [← h2, ltrs, if_neg c21, List.all_cons, decide_eq_false (fun z => z c30), Bool.false_and]
              have hq := hQ σ (by rw [csTyp, hno, if_neg (by decide)]; exact hX) FrP.rf
              rw [hno] at hq
              exact hq)
  refine Ct.of (lv := [some (rf G 0), none, none, none, none, none]) (ll := [(1, v)]) rfl rfl ⟨Nat.le_of_ble_eq_true rfl, fun i w h => ?_, fun q hq => ?_⟩ ?_
  · rcases i with _ | _ | _ | _ | _ | _ | i
    · cases h; exact ⟨by simp [lv_args], rfl⟩
    all_goals (simp at h)
  · rw [List.mem_singleton.mp hq]; simp [lv_args, rf, Value.category]
  refine x_iconst (v := 0) d_SD_type_0 (by decide) ?_
  refine x_istore_n d_SD_type_1 rfl rfl ?_
  refine x_bipush (v := 56) d_SD_type_2 (by decide) ?_
  refine x_istore d_SD_type_4 rfl ?_
  exact Wq.fgl (lp 8 0 rfl (by omega) (by omega)) ⟨rfl, by rw [nI_0], by decide, trivial⟩ (fun q hq => by rw [List.mem_singleton.mp hq]; exact .head _)
