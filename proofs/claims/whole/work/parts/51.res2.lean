/-! ResidualProgram: markFunctions, writeOwnCall -/
theorem in0 {n : Nat} : inN n (nc n) := ⟨by unfold nc; omega, by unfold nc; omega⟩
def tMk1 (T : TS) (n : Nat) : TS := if (tD T n).1 7 = 4 then tUp T n (xi (tD T n) 10 1) else match (tD T n).2.1 9 with
  | none => T
  | some u => tUp T u (xi (tD T u) 10 1)
def tMk : Nat → Nat → TS → TS
  | 0, _, T => T
  | k + 1, n, T => tMk k (n + 1) (tMk1 T n)
theorem tMk1_N {T : TS} {n : Nat} : tN (tMk1 T n) = tN T := by
  unfold tMk1
  split
  · rfl
  · split <;> rfl
set_option maxRecDepth 10000 in
set_option maxHeartbeats 1000000 in
theorem c_ResidualProgram_markFunctions {G : Ctx} {d : Nat} {Γ : List Sh} {σ : Mem} {Q : Option Value → List Sh → Mem → Prop} {T : TS}  (hRs : isRes Γ σ) (hT : isTree Γ σ T) (hQ : ∀ σ', isTree Γ σ' (tMk (tN T) 0 T) → FrP inT σ σ' → Q none Γ σ') : Ct G M_ResidualProgram_markFunctions (d + 1) 0 0 [rf G 385] Γ σ Q := by
  obtain ⟨p0, p1, p2, p3⟩ := id hRs
  have Rs : ∀ {τ : Mem}, FrP inT σ τ → isRes Γ τ := fun h => hRs.P h (by unfold inT; omega)
  have lp : ∀ (k : Nat) (i : Nat) (T0 : TS) (τ : Mem), i + k = tN T → tN T0 = tN T → tMk k i T0 = tMk (tN T) 0 T → isTree Γ τ T0 → FrP inT σ τ → Wq G M_ResidualProgram_markFunctions (Em G (d + 1) 0 0 Q) 0 0 2 [some (rf G 385), some (.int (nI i)), none] [] [] Γ τ := by
    intro k
    induction k with
    | zero =>
      intro i T0 τ h1 h2 h3 T1 f0
      obtain ⟨u1, u2, u3, ⟨u4, u4b⟩, -⟩ := id T1
      refine x_iload_n d_ResidualProgram_markFunctions_2 rfl rfl ?_
      first | refine x_aload_n d_ResidualProgram_markFunctions_3 rfl rfl ?_ | refine x_aloadN_n d_ResidualProgram_markFunctions_3 rfl rfl ?_ | refine x_aloadE_n d_ResidualProgram_markFunctions_3 rfl rfl ?_ | refine x_aloadO_n d_ResidualProgram_markFunctions_3 rfl rfl ?_
      refine x_getR d_ResidualProgram_markFunctions_4 f_ResidualProgram_9 rfl (by exact p0) ((Rs f0).2.1) ?_
      refine x_callV0 d_ResidualProgram_markFunctions_7 k_Tree_count l_ResidualProgram_31 v_Tree_count rfl s_Tree_count (by exact T1.1) RoomE.m (Nat.le_of_ble_eq_true rfl) (c_Tree_count T1 ?_)
      refine x_icmp_ge (tgt := 67) d_ResidualProgram_markFunctions_10 (by decide) (fun c10 => ?_) (fun c10 => ?_)
      · exact x_return d_ResidualProgram_markFunctions_67 rfl (hQ τ (by rw [← h3]; exact T1) f0)
      · exact absurd (nI_le (by omega) (by omega)) c10
    | succ k ih =>
      intro i T0 τ h1 h2 h3 T1 f0
      obtain ⟨u1, u2, u3, ⟨u4, u4b⟩, -⟩ := id T1
      have hi : i < tN T0 := by omega
      refine x_iload_n d_ResidualProgram_markFunctions_2 rfl rfl ?_
      first | refine x_aload_n d_ResidualProgram_markFunctions_3 rfl rfl ?_ | refine x_aloadN_n d_ResidualProgram_markFunctions_3 rfl rfl ?_ | refine x_aloadE_n d_ResidualProgram_markFunctions_3 rfl rfl ?_ | refine x_aloadO_n d_ResidualProgram_markFunctions_3 rfl rfl ?_
      refine x_getR d_ResidualProgram_markFunctions_4 f_ResidualProgram_9 rfl (by exact p0) ((Rs f0).2.1) ?_
      refine x_callV0 d_ResidualProgram_markFunctions_7 k_Tree_count l_ResidualProgram_31 v_Tree_count rfl s_Tree_count (by exact T1.1) RoomE.m (Nat.le_of_ble_eq_true rfl) (c_Tree_count T1 ?_)
      refine x_icmp_ge (tgt := 67) d_ResidualProgram_markFunctions_10 (by decide) (fun c10 => ?_) (fun c10 => ?_)
      · rw [nI_leI (by omega) (by omega)] at c10; omega
      · have nn := T1.nd (show i < 48 by omega)
        first | refine x_aload_n d_ResidualProgram_markFunctions_13 rfl rfl ?_ | refine x_aloadN_n d_ResidualProgram_markFunctions_13 rfl rfl ?_ | refine x_aloadE_n d_ResidualProgram_markFunctions_13 rfl rfl ?_ | refine x_aloadO_n d_ResidualProgram_markFunctions_13 rfl rfl ?_
        refine x_getR d_ResidualProgram_markFunctions_14 f_ResidualProgram_9 rfl (by exact p0) ((Rs f0).2.1) ?_
        refine x_iload_n d_ResidualProgram_markFunctions_17 rfl rfl ?_
        refine x_callV1 d_ResidualProgram_markFunctions_18 k_Tree_get l_ResidualProgram_15 v_Tree_get rfl s_Tree_get (by exact T1.1) RoomE.m (Nat.le_of_ble_eq_true rfl) (c_Tree_get T1 ?_)
        rw [tGet_nI (by omega), if_pos hi]
        first | refine x_astore_n d_ResidualProgram_markFunctions_21 rfl rfl ?_ | refine x_astoreN_n d_ResidualProgram_markFunctions_21 rfl rfl ?_ | refine x_astoreE_n d_ResidualProgram_markFunctions_21 rfl rfl ?_ | refine x_astoreO_n d_ResidualProgram_markFunctions_21 rfl rfl ?_
        first | refine x_aload_n d_ResidualProgram_markFunctions_22 rfl rfl ?_ | refine x_aloadN_n d_ResidualProgram_markFunctions_22 rfl rfl ?_ | refine x_aloadE_n d_ResidualProgram_markFunctions_22 rfl rfl ?_ | refine x_aloadO_n d_ResidualProgram_markFunctions_22 rfl rfl ?_
        refine x_ifnull d_ResidualProgram_markFunctions_23 ?_
        first | refine x_aload_n d_ResidualProgram_markFunctions_26 rfl rfl ?_ | refine x_aloadN_n d_ResidualProgram_markFunctions_26 rfl rfl ?_ | refine x_aloadE_n d_ResidualProgram_markFunctions_26 rfl rfl ?_ | refine x_aloadO_n d_ResidualProgram_markFunctions_26 rfl rfl ?_
        refine x_getI d_ResidualProgram_markFunctions_27 f_ResidualProgram_77 rfl (by exact nn.1) ?_
        refine x_iconst (v := 4) d_ResidualProgram_markFunctions_30 (by decide) ?_
        rw [show τ.1 (nc i) 7 = (tD T0 i).1 7 from nn.2.1.2 7 rfl]
        refine x_icmp_ne (tgt := 42) d_ResidualProgram_markFunctions_31 (by decide) (fun c31 => ?_) (fun c31 => ?_)
        · first | refine x_aload_n d_ResidualProgram_markFunctions_42 rfl rfl ?_ | refine x_aloadN_n d_ResidualProgram_markFunctions_42 rfl rfl ?_ | refine x_aloadE_n d_ResidualProgram_markFunctions_42 rfl rfl ?_ | refine x_aloadO_n d_ResidualProgram_markFunctions_42 rfl rfl ?_
          refine x_ifnull d_ResidualProgram_markFunctions_43 ?_
          first | refine x_aload_n d_ResidualProgram_markFunctions_46 rfl rfl ?_ | refine x_aloadN_n d_ResidualProgram_markFunctions_46 rfl rfl ?_ | refine x_aloadE_n d_ResidualProgram_markFunctions_46 rfl rfl ?_ | refine x_aloadO_n d_ResidualProgram_markFunctions_46 rfl rfl ?_
          refine x_getQ d_ResidualProgram_markFunctions_47 f_ResidualProgram_80 rfl (by exact nn.1) ((nn.2.2.1.2.2 9 rfl).1) ?_
          rcases hO50 : (tD T0 i).2.1 9 with _ | u
          · show Wq _ _ _ _ _ _ _ _ (.null :: _) _ _
            refine x_ifnullN (tgt := 61) d_ResidualProgram_markFunctions_50 (by decide) ?_
            refine x_iinc (v := nI (i + 1)) d_ResidualProgram_markFunctions_61 rfl (nI_1 i) rfl ?_
            refine x_goto (tgt := 2) d_ResidualProgram_markFunctions_64 (by decide) ?_
            exact Wq.fg (ih (i + 1) (tMk1 T0 i) τ (by omega) (by rw [tMk1_N]; exact h2) h3 (by rw [tMk1, if_neg (show ¬ (tD T0 i).1 7 = 4 from c31), hO50]; exact T1) f0) ⟨rfl, rfl, trivial⟩
          · show Wq _ _ _ _ _ _ _ _ (rf G (133 + 5 * u) :: _) _ _
            have hu := (nn.2.2.1.2.2 9 rfl).2 _ hO50
            have uu := T1.nd hu
            refine x_ifnull d_ResidualProgram_markFunctions_50 ?_
            first | refine x_aload_n d_ResidualProgram_markFunctions_53 rfl rfl ?_ | refine x_aloadN_n d_ResidualProgram_markFunctions_53 rfl rfl ?_ | refine x_aloadE_n d_ResidualProgram_markFunctions_53 rfl rfl ?_ | refine x_aloadO_n d_ResidualProgram_markFunctions_53 rfl rfl ?_
            refine x_getQ d_ResidualProgram_markFunctions_54 f_ResidualProgram_80 rfl (by exact nn.1) ((nn.2.2.1.2.2 9 rfl).1.trans (by rw [hO50])) ?_
            refine x_iconst (v := 1) d_ResidualProgram_markFunctions_57 (by decide) ?_
            refine x_putI d_ResidualProgram_markFunctions_58 (w_ResidualProgram_m_35 _) rfl (by first | rfl | decide) (by first | rfl | decide) (by exact uu.1) ?_
            refine x_iinc (v := nI (i + 1)) d_ResidualProgram_markFunctions_61 rfl (nI_1 i) rfl ?_
            refine x_goto (tgt := 2) d_ResidualProgram_markFunctions_64 (by decide) ?_
            exact Wq.fg (ih (i + 1) (tMk1 T0 i) _ (by omega) (by rw [tMk1_N]; exact h2) h3 (by rw [tMk1, if_neg (show ¬ (tD T0 i).1 7 = 4 from c31), hO50]; exact T1.up hu (FrP.rf.wI in0) (uu.wI (j := 10) rfl)) (f0.tr ((FrP.rf.wI (S := inN u) in0).T hu))) ⟨rfl, rfl, trivial⟩
        · first | refine x_aload_n d_ResidualProgram_markFunctions_34 rfl rfl ?_ | refine x_aloadN_n d_ResidualProgram_markFunctions_34 rfl rfl ?_ | refine x_aloadE_n d_ResidualProgram_markFunctions_34 rfl rfl ?_ | refine x_aloadO_n d_ResidualProgram_markFunctions_34 rfl rfl ?_
          refine x_iconst (v := 1) d_ResidualProgram_markFunctions_35 (by decide) ?_
          refine x_putI d_ResidualProgram_markFunctions_36 (w_ResidualProgram_m_35 _) rfl (by first | rfl | decide) (by first | rfl | decide) (by exact nn.1) ?_
          refine x_goto (tgt := 61) d_ResidualProgram_markFunctions_39 (by decide) ?_
          refine x_iinc (v := nI (i + 1)) d_ResidualProgram_markFunctions_61 rfl (nI_1 i) rfl ?_
          refine x_goto (tgt := 2) d_ResidualProgram_markFunctions_64 (by decide) ?_
          exact Wq.fg (ih (i + 1) (tMk1 T0 i) _ (by omega) (by rw [tMk1_N]; exact h2) h3 (by rw [tMk1, if_pos (show (tD T0 i).1 7 = 4 from c31)]; exact T1.up (by omega) (FrP.rf.wI in0) (nn.wI (j := 10) rfl)) (f0.tr ((FrP.rf.wI (S := inN i) in0).T (by omega)))) ⟨rfl, rfl, trivial⟩
  refine Ct.of (lv := [some (rf G 385), none, none]) (ll := []) rfl rfl (EN.cat (n := 2) ⟨rfl, trivial⟩ (Nat.le_of_ble_eq_true rfl)) ?_
  refine x_iconst (v := 0) d_ResidualProgram_markFunctions_0 (by decide) ?_
  refine x_istore_n d_ResidualProgram_markFunctions_1 rfl rfl ?_
  exact Wq.fg (lp (tN T) 0 T σ (by omega) rfl rfl hT FrP.rf) ⟨rfl, by rw [nI_0], trivial⟩
def oc1 (l : List Int32) (s : Int32) : List Int32 := if isV s = true ∧ idxI (l.take 100) s = -1 then l ++ [s] else l
def ocH (T : TS) (n : Nat) : List Int32 := nrs (tD T n) ++ [300 + nI n] ++ (if (tD T n).1 7 = 4 then [(tD T n).1 8] else [])
def ocL (T : TS) (n : Nat) : List Int32 := (t40 T n).foldl oc1 (ocH T n)
def ocT (T : TS) (n : Nat) : TS := tUp T n (xs (tD T n) (ocL T n))
def ocP (T : TS) (n : Nat) : Int32 := nI ((ocL T n).take 100).length - 1
def ocC (T : TS) (n : Nat) : Bool := decide ((tD T n).1 7 = 4)
theorem isNd.sr {Γ : List Sh} {σ σ' : Mem} {n : Nat} {x : ND} {l : List Int32} (h : isNd Γ σ n x) (hr : isRow Γ σ' (136 + 5 * n) 100 l) (hf : FrI [136 + 5 * n, 136 + 5 * n + 1] σ σ') : isNd Γ σ' n (xs x l) := h.s hr hf
theorem c_shape' {G : Ctx} {d : Nat} {Γ : List Sh} {σ : Mem} {Q : Option Value → List Sh → Mem → Prop} {g : Nat} {pt : Nat → Int32} {cs : Nat → Bool} {s c z : Int32} {b : Bool} (hz : z = bI b) (hG : isSg Γ σ g pt cs) (hs : isC s = true) (hs2 : ¬ 401 ≤ s) (hQ : ∀ σ', isSg Γ σ' g (upN pt s.toNatClampNeg c) (upN cs s.toNatClampNeg b) → FrI [g + 1, g + 2] σ σ' → Q none Γ σ') : Ct G M_Signs_shape (d + 1) 0 0 [rf G g, .int s, .int c, .int z] Γ σ Q := by
  subst hz
  exact c_Signs_shape hG hs hs2 hQ
theorem isC_3 {n : Nat} (h : n < 48) : isC (300 + nI n) = true ∧ ¬ 401 ≤ 300 + nI n ∧ (300 + nI n).toNatClampNeg = 300 + n := by
  have e : (300 : Int32) + nI n = nI (300 + n) := by rw [← nI_add]; rfl
  rw [e]
  refine ⟨?_, ?_, nI_clamp (by omega)⟩
  · unfold isC
    exact if_neg (show ¬ nI (300 + n) < nI 200 from nI_nlt (by omega) (by omega))
  · exact nI_ge (b := 401) (by omega) (by decide)
set_option maxRecDepth 10000 in
set_option maxHeartbeats 1000000 in
theorem c_ResidualProgram_writeOwnCall {G : Ctx} {d : Nat} {Γ : List Sh} {σ : Mem} {Q : Option Value → List Sh → Mem → Prop} {T : TS} {n : Nat} {pt : Nat → Int32} {cs : Nat → Bool}  (hRs : isRes Γ σ) (hT : isTree Γ σ T) (hG : isSg Γ σ 27 pt cs) (hn2 : n < tN T) (hQ : ∀ σ', isTree Γ σ' (ocT T n) → isSg Γ σ' 27 (upN pt (300 + n) (ocP T n)) (upN cs (300 + n) (ocC T n)) → FrP (fun a => inT a ∨ a = 28 ∨ a = 29) σ σ' → Q none Γ σ') : Ct G M_ResidualProgram_writeOwnCall (d + 2) 0 0 [rf G 385, rf G (133 + 5 * n)] Γ σ Q := by
  obtain ⟨p0, p1, p2, p3⟩ := id hRs
  obtain ⟨-, -, -, ⟨-, t4b⟩, -⟩ := id hT
  have hn : n < 48 := by omega
  have hN := hT.nd hn
  have hal : (t40 T n).length ≤ 40 := by rw [t40, List.length_take]; omega
  obtain ⟨m0, ⟨i0, ii⟩, ⟨q1, q2, qq⟩, nt, nr⟩ := id hN
  have lp : ∀ (k : Nat) (i : Nat) (l : List Int32) (τ : Mem), i + k = (t40 T n).length → ((t40 T n).drop i).foldl oc1 l = ocL T n → isTree Γ τ (tUp T n (xs (tD T n) l)) → isNd Γ τ n (xs (tD T n) l) → FrP (inN n) σ τ → Wq G M_ResidualProgram_writeOwnCall (Em G (d + 2) 0 0 Q) 0 0 35 [some (rf G 385), some (rf G (133 + 5 * n)), some (rf G (136 + 5 * n)), some (.int (nI i)), none] [] [] Γ τ := by
    intro k
    induction k with
    | zero =>
      intro i l τ h1 h2 T1 N1 f0
      obtain ⟨m0, ⟨i0, ii⟩, ⟨q1, q2, qq⟩, nt, nr⟩ := id N1
      rw [List.drop_eq_nil_of_le (show (t40 T n).length ≤ i by omega), List.foldl_nil] at h2
      refine x_iload_n d_ResidualProgram_writeOwnCall_35 rfl rfl ?_
      first | refine x_aload_n d_ResidualProgram_writeOwnCall_36 rfl rfl ?_ | refine x_aloadN_n d_ResidualProgram_writeOwnCall_36 rfl rfl ?_ | refine x_aloadE_n d_ResidualProgram_writeOwnCall_36 rfl rfl ?_ | refine x_aloadO_n d_ResidualProgram_writeOwnCall_36 rfl rfl ?_
      refine x_getR d_ResidualProgram_writeOwnCall_37 f_ResidualProgram_93 rfl (by exact m0) (q1) ?_
      refine x_callV0 d_ResidualProgram_writeOwnCall_40 k_Row_length l_ResidualProgram_96 v_Row_length rfl s_Row_length (by exact nt.1) RoomE.m (Nat.le_of_ble_eq_true rfl) (c_Row_length nt ?_)
      refine x_icmp_ge (tgt := 86) d_ResidualProgram_writeOwnCall_43 (by decide) (fun c43 => ?_) (fun c43 => ?_)
      · first | refine x_aload_n d_ResidualProgram_writeOwnCall_86 rfl rfl ?_ | refine x_aloadN_n d_ResidualProgram_writeOwnCall_86 rfl rfl ?_ | refine x_aloadE_n d_ResidualProgram_writeOwnCall_86 rfl rfl ?_ | refine x_aloadO_n d_ResidualProgram_writeOwnCall_86 rfl rfl ?_
        refine x_getR d_ResidualProgram_writeOwnCall_87 f_ResidualProgram_106 rfl (by exact hRs.1) ((hRs.P (f0.T hn) (by unfold inT; omega)).2.2.1) ?_
        refine x_sipush (v := 300) d_ResidualProgram_writeOwnCall_90 (by decide) ?_
        first | refine x_aload_n d_ResidualProgram_writeOwnCall_93 rfl rfl ?_ | refine x_aloadN_n d_ResidualProgram_writeOwnCall_93 rfl rfl ?_ | refine x_aloadE_n d_ResidualProgram_writeOwnCall_93 rfl rfl ?_ | refine x_aloadO_n d_ResidualProgram_writeOwnCall_93 rfl rfl ?_
        refine x_getI d_ResidualProgram_writeOwnCall_94 f_ResidualProgram_83 rfl (by exact m0) ?_
        rw [i0]
        refine x_iadd d_ResidualProgram_writeOwnCall_97 ?_
        first | refine x_aload_n d_ResidualProgram_writeOwnCall_98 rfl rfl ?_ | refine x_aloadN_n d_ResidualProgram_writeOwnCall_98 rfl rfl ?_ | refine x_aloadE_n d_ResidualProgram_writeOwnCall_98 rfl rfl ?_ | refine x_aloadO_n d_ResidualProgram_writeOwnCall_98 rfl rfl ?_
        refine x_callV0 d_ResidualProgram_writeOwnCall_99 k_Row_length l_ResidualProgram_96 v_Row_length rfl s_Row_length (by exact nr.1) RoomE.m (Nat.le_of_ble_eq_true rfl) (c_Row_length nr ?_)
        refine x_iconst (v := 1) d_ResidualProgram_writeOwnCall_102 (by decide) ?_
        refine x_isub d_ResidualProgram_writeOwnCall_103 ?_
        first | refine x_aload_n d_ResidualProgram_writeOwnCall_104 rfl rfl ?_ | refine x_aloadN_n d_ResidualProgram_writeOwnCall_104 rfl rfl ?_ | refine x_aloadE_n d_ResidualProgram_writeOwnCall_104 rfl rfl ?_ | refine x_aloadO_n d_ResidualProgram_writeOwnCall_104 rfl rfl ?_
        refine x_getI d_ResidualProgram_writeOwnCall_105 f_ResidualProgram_77 rfl (by exact m0) ?_
        rw [show τ.1 (133 + 5 * n) 7 = (tD T n).1 7 from ii 7 rfl]
        refine x_iconst (v := 4) d_ResidualProgram_writeOwnCall_108 (by decide) ?_
        refine x_icmp_ne (tgt := 116) d_ResidualProgram_writeOwnCall_109 (by decide) (fun c109 => ?_) (fun c109 => ?_)
        · refine x_iconst (v := 0) d_ResidualProgram_writeOwnCall_116 (by decide) ?_
          refine x_callV3 d_ResidualProgram_writeOwnCall_117 k_Signs_shape l_ResidualProgram_110 v_Signs_shape rfl s_Signs_shape (by exact hG.1.1) RoomE.m (Nat.le_of_ble_eq_true rfl) (c_shape' (b := ocC T n) (by first | (rw [ocC, decide_eq_true c109]; rfl) | (rw [ocC, decide_eq_false c109]; rfl)) (sg_T hG (f0.T hn)) (isC_3 (by omega)).1 (isC_3 (by omega)).2.1 (fun τ2 G2 f2 => ?_))
          exact x_return d_ResidualProgram_writeOwnCall_120 rfl (by
            rw [(isC_3 (show n < 48 by omega)).2.2] at G2
            have e5 : l = ocL T n := h2
            subst e5
            exact hQ τ2 (T1.P (f2.P (T := fun a => a = 28 ∨ a = 29) (by simp)) (fun a ha hb => by unfold inT at ha; omega)) G2 ((f0.T hn).mono (fun a z => Or.inl z) |>.tr (f2.P (by simp))))
        · refine x_iconst (v := 1) d_ResidualProgram_writeOwnCall_112 (by decide) ?_
          refine x_goto (tgt := 117) d_ResidualProgram_writeOwnCall_113 (by decide) ?_
          refine x_callV3 d_ResidualProgram_writeOwnCall_117 k_Signs_shape l_ResidualProgram_110 v_Signs_shape rfl s_Signs_shape (by exact hG.1.1) RoomE.m (Nat.le_of_ble_eq_true rfl) (c_shape' (b := ocC T n) (by first | (rw [ocC, decide_eq_true c109]; rfl) | (rw [ocC, decide_eq_false c109]; rfl)) (sg_T hG (f0.T hn)) (isC_3 (by omega)).1 (isC_3 (by omega)).2.1 (fun τ2 G2 f2 => ?_))
          exact x_return d_ResidualProgram_writeOwnCall_120 rfl (by
            rw [(isC_3 (show n < 48 by omega)).2.2] at G2
            have e5 : l = ocL T n := h2
            subst e5
            exact hQ τ2 (T1.P (f2.P (T := fun a => a = 28 ∨ a = 29) (by simp)) (fun a ha hb => by unfold inT at ha; omega)) G2 ((f0.T hn).mono (fun a z => Or.inl z) |>.tr (f2.P (by simp))))
      · exact absurd (nI_le (show (t40 T n).length ≤ i by omega) (by omega)) c43
    | succ k ih =>
      intro i l τ h1 h2 T1 N1 f0
      obtain ⟨m0, ⟨i0, ii⟩, ⟨q1, q2, qq⟩, nt, nr⟩ := id N1
      have hil : i < (t40 T n).length := by omega
      refine x_iload_n d_ResidualProgram_writeOwnCall_35 rfl rfl ?_
      first | refine x_aload_n d_ResidualProgram_writeOwnCall_36 rfl rfl ?_ | refine x_aloadN_n d_ResidualProgram_writeOwnCall_36 rfl rfl ?_ | refine x_aloadE_n d_ResidualProgram_writeOwnCall_36 rfl rfl ?_ | refine x_aloadO_n d_ResidualProgram_writeOwnCall_36 rfl rfl ?_
      refine x_getR d_ResidualProgram_writeOwnCall_37 f_ResidualProgram_93 rfl (by exact m0) (q1) ?_
      refine x_callV0 d_ResidualProgram_writeOwnCall_40 k_Row_length l_ResidualProgram_96 v_Row_length rfl s_Row_length (by exact nt.1) RoomE.m (Nat.le_of_ble_eq_true rfl) (c_Row_length nt ?_)
      refine x_icmp_ge (tgt := 86) d_ResidualProgram_writeOwnCall_43 (by decide) (fun c43 => ?_) (fun c43 => ?_)
      · have c43b : nI (t40 T n).length ≤ nI i := c43
        rw [nI_leI (by omega) (by omega)] at c43b; omega
      · first | refine x_aload_n d_ResidualProgram_writeOwnCall_46 rfl rfl ?_ | refine x_aloadN_n d_ResidualProgram_writeOwnCall_46 rfl rfl ?_ | refine x_aloadE_n d_ResidualProgram_writeOwnCall_46 rfl rfl ?_ | refine x_aloadO_n d_ResidualProgram_writeOwnCall_46 rfl rfl ?_
        refine x_getR d_ResidualProgram_writeOwnCall_47 f_ResidualProgram_93 rfl (by exact m0) (q1) ?_
        refine x_iload_n d_ResidualProgram_writeOwnCall_50 rfl rfl ?_
        refine x_callV1 d_ResidualProgram_writeOwnCall_51 k_Row_at l_ResidualProgram_60 v_Row_at rfl s_Row_at (by exact nt.1) RoomE.m (Nat.le_of_ble_eq_true rfl) (c_Row_at nt ?_)
        rw [atI_nI (by omega)]
        refine x_istore d_ResidualProgram_writeOwnCall_54 rfl ?_
        refine x_iload d_ResidualProgram_writeOwnCall_56 rfl ?_
        refine x_callSN1 d_ResidualProgram_writeOwnCall_58 k_SD_isVariable ln_ResidualProgram_99 z_SD_isVariable RoomE.m (Nat.le_of_ble_eq_true rfl) (c_SD_isVariable ?_)
        refine x_if_eq (tgt := 80) d_ResidualProgram_writeOwnCall_61 (by decide) (fun c61 => ?_) (fun c61 => ?_)
        · refine x_iinc (v := nI (i + 1)) d_ResidualProgram_writeOwnCall_80 rfl (nI_1 i) rfl ?_
          refine x_goto (tgt := 35) d_ResidualProgram_writeOwnCall_83 (by decide) ?_
          exact Wq.fg (ih (i + 1) l τ (by omega) (by rw [drop_cons hil, List.foldl_cons, oc1, if_neg (by rw [show isV ((t40 T n).getD i (-1)) = false from bI_0 c61]; exact fun z => absurd z.1 (by decide))] at h2; exact h2) T1 N1 f0) ⟨rfl, rfl, rfl, rfl, trivial⟩
        · first | refine x_aload_n d_ResidualProgram_writeOwnCall_64 rfl rfl ?_ | refine x_aloadN_n d_ResidualProgram_writeOwnCall_64 rfl rfl ?_ | refine x_aloadE_n d_ResidualProgram_writeOwnCall_64 rfl rfl ?_ | refine x_aloadO_n d_ResidualProgram_writeOwnCall_64 rfl rfl ?_
          refine x_iload d_ResidualProgram_writeOwnCall_65 rfl ?_
          refine x_callV1 d_ResidualProgram_writeOwnCall_67 k_Row_indexOf l_ResidualProgram_103 v_Row_indexOf rfl s_Row_indexOf (by exact nr.1) RoomE.m (Nat.le_of_ble_eq_true rfl) (c_Row_indexOf nr ?_)
          refine x_iconst (v := -1) d_ResidualProgram_writeOwnCall_70 (by decide) ?_
          refine x_icmp_ne (tgt := 80) d_ResidualProgram_writeOwnCall_71 (by decide) (fun c71 => ?_) (fun c71 => ?_)
          · refine x_iinc (v := nI (i + 1)) d_ResidualProgram_writeOwnCall_80 rfl (nI_1 i) rfl ?_
            refine x_goto (tgt := 35) d_ResidualProgram_writeOwnCall_83 (by decide) ?_
            exact Wq.fg (ih (i + 1) l τ (by omega) (by rw [drop_cons hil, List.foldl_cons, oc1, if_neg (fun z => c71 z.2)] at h2; exact h2) T1 N1 f0) ⟨rfl, rfl, rfl, rfl, trivial⟩
          · first | refine x_aload_n d_ResidualProgram_writeOwnCall_74 rfl rfl ?_ | refine x_aloadN_n d_ResidualProgram_writeOwnCall_74 rfl rfl ?_ | refine x_aloadE_n d_ResidualProgram_writeOwnCall_74 rfl rfl ?_ | refine x_aloadO_n d_ResidualProgram_writeOwnCall_74 rfl rfl ?_
            refine x_iload d_ResidualProgram_writeOwnCall_75 rfl ?_
            refine x_callV1 d_ResidualProgram_writeOwnCall_77 k_Row_add l_ResidualProgram_86 v_Row_add rfl s_Row_add (by exact nr.1) RoomE.m (Nat.le_of_ble_eq_true rfl) (c_Row_add nr (fun τ2 r2 f2 => ?_))
            refine x_iinc (v := nI (i + 1)) d_ResidualProgram_writeOwnCall_80 rfl (nI_1 i) rfl ?_
            refine x_goto (tgt := 35) d_ResidualProgram_writeOwnCall_83 (by decide) ?_
            have N2 : isNd Γ τ2 n (xs (xs (tD T n) l) (l ++ [(t40 T n).getD i (-1)])) := N1.s r2 f2
            have g2 : FrP (inN n) τ τ2 := f2.P (by simp [inN] <;> omega)
            have g0 := f0.tr g2
            exact Wq.fg (ih (i + 1) (l ++ [(t40 T n).getD i (-1)]) τ2 (by omega) (by rw [drop_cons hil, List.foldl_cons, oc1, if_pos ⟨bI_n0 c61, c71⟩] at h2; exact h2) (hT.up hn g0 N2) N2 g0) ⟨rfl, rfl, rfl, rfl, trivial⟩
  refine Ct.of (lv := [some (rf G 385), some (rf G (133 + 5 * n)), none, none, none]) (ll := []) rfl rfl (EN.cat (n := 3) ⟨rfl, rfl, trivial⟩ (Nat.le_of_ble_eq_true rfl)) ?_
  first | refine x_aload_n d_ResidualProgram_writeOwnCall_0 rfl rfl ?_ | refine x_aloadN_n d_ResidualProgram_writeOwnCall_0 rfl rfl ?_ | refine x_aloadE_n d_ResidualProgram_writeOwnCall_0 rfl rfl ?_ | refine x_aloadO_n d_ResidualProgram_writeOwnCall_0 rfl rfl ?_
  refine x_getR d_ResidualProgram_writeOwnCall_1 f_ResidualProgram_21 rfl (by exact m0) (q2) ?_
  first | refine x_astore_n d_ResidualProgram_writeOwnCall_4 rfl rfl ?_ | refine x_astoreN_n d_ResidualProgram_writeOwnCall_4 rfl rfl ?_ | refine x_astoreE_n d_ResidualProgram_writeOwnCall_4 rfl rfl ?_ | refine x_astoreO_n d_ResidualProgram_writeOwnCall_4 rfl rfl ?_
  first | refine x_aload_n d_ResidualProgram_writeOwnCall_5 rfl rfl ?_ | refine x_aloadN_n d_ResidualProgram_writeOwnCall_5 rfl rfl ?_ | refine x_aloadE_n d_ResidualProgram_writeOwnCall_5 rfl rfl ?_ | refine x_aloadO_n d_ResidualProgram_writeOwnCall_5 rfl rfl ?_
  refine x_sipush (v := 300) d_ResidualProgram_writeOwnCall_6 (by decide) ?_
  first | refine x_aload_n d_ResidualProgram_writeOwnCall_9 rfl rfl ?_ | refine x_aloadN_n d_ResidualProgram_writeOwnCall_9 rfl rfl ?_ | refine x_aloadE_n d_ResidualProgram_writeOwnCall_9 rfl rfl ?_ | refine x_aloadO_n d_ResidualProgram_writeOwnCall_9 rfl rfl ?_
  refine x_getI d_ResidualProgram_writeOwnCall_10 f_ResidualProgram_83 rfl (by exact m0) ?_
  rw [i0]
  refine x_iadd d_ResidualProgram_writeOwnCall_13 ?_
  refine x_callV1 d_ResidualProgram_writeOwnCall_14 k_Row_add l_ResidualProgram_86 v_Row_add rfl s_Row_add (by exact nr.1) RoomE.m (Nat.le_of_ble_eq_true rfl) (c_Row_add nr (fun τ1 r1 f1 => ?_))
  first | refine x_aload_n d_ResidualProgram_writeOwnCall_17 rfl rfl ?_ | refine x_aloadN_n d_ResidualProgram_writeOwnCall_17 rfl rfl ?_ | refine x_aloadE_n d_ResidualProgram_writeOwnCall_17 rfl rfl ?_ | refine x_aloadO_n d_ResidualProgram_writeOwnCall_17 rfl rfl ?_
  refine x_getI d_ResidualProgram_writeOwnCall_18 f_ResidualProgram_77 rfl (by exact m0) ?_
  rw [show τ1.1 (133 + 5 * n) 7 = (tD T n).1 7 by rw [f1.2 _ (by simp <;> omega)]; exact ii 7 rfl]
  refine x_iconst (v := 4) d_ResidualProgram_writeOwnCall_21 (by decide) ?_
  refine x_icmp_ne (tgt := 33) d_ResidualProgram_writeOwnCall_22 (by decide) (fun c22 => ?_) (fun c22 => ?_)
  · refine x_iconst (v := 0) d_ResidualProgram_writeOwnCall_33 (by decide) ?_
    refine x_istore_n d_ResidualProgram_writeOwnCall_34 rfl rfl ?_
    have N3 : isNd Γ τ1 n (xs (tD T n) (ocH T n)) := by
      have h5 := hN.s r1 f1
      rw [ocH, if_neg c22, List.append_nil]
      exact h5
    have g3 : FrP (inN n) σ τ1 := f1.P (by simp [inN] <;> omega)
    exact Wq.fg (lp (t40 T n).length 0 (ocH T n) τ1 (by omega) rfl (hT.up hn g3 N3) N3 g3) ⟨rfl, rfl, rfl, by rw [nI_0], trivial⟩
  · first | refine x_aload_n d_ResidualProgram_writeOwnCall_25 rfl rfl ?_ | refine x_aloadN_n d_ResidualProgram_writeOwnCall_25 rfl rfl ?_ | refine x_aloadE_n d_ResidualProgram_writeOwnCall_25 rfl rfl ?_ | refine x_aloadO_n d_ResidualProgram_writeOwnCall_25 rfl rfl ?_
    first | refine x_aload_n d_ResidualProgram_writeOwnCall_26 rfl rfl ?_ | refine x_aloadN_n d_ResidualProgram_writeOwnCall_26 rfl rfl ?_ | refine x_aloadE_n d_ResidualProgram_writeOwnCall_26 rfl rfl ?_ | refine x_aloadO_n d_ResidualProgram_writeOwnCall_26 rfl rfl ?_
    refine x_getI d_ResidualProgram_writeOwnCall_27 f_ResidualProgram_90 rfl (by exact m0) ?_
    rw [show τ1.1 (133 + 5 * n) 8 = (tD T n).1 8 by rw [f1.2 _ (by simp <;> omega)]; exact ii 8 rfl]
    refine x_callV1 d_ResidualProgram_writeOwnCall_30 k_Row_add l_ResidualProgram_86 v_Row_add rfl s_Row_add (by exact nr.1) RoomE.m (Nat.le_of_ble_eq_true rfl) (c_Row_add r1 (fun τ2 r2 f2 => ?_))
    refine x_iconst (v := 0) d_ResidualProgram_writeOwnCall_33 (by decide) ?_
    refine x_istore_n d_ResidualProgram_writeOwnCall_34 rfl rfl ?_
    have N3 : isNd Γ τ2 n (xs (tD T n) (ocH T n)) := by
      have h5 := hN.s r2 (f1.tr f2)
      rw [ocH, if_pos c22]
      exact h5
    have g3 : FrP (inN n) σ τ2 := (f1.tr f2).P (by simp [inN] <;> omega)
    exact Wq.fg (lp (t40 T n).length 0 (ocH T n) τ2 (by omega) rfl (hT.up hn g3 N3) N3 g3) ⟨rfl, rfl, rfl, by rw [nI_0], trivial⟩
