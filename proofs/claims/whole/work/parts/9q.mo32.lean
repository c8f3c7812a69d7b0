/-! SuperDriverModel: hasInputs, begin -/
theorem inp1_k {ins : Nat → List Int32} {k : Nat} (h : 100 ≤ k) (h4 : k ≤ 400) : inp1 ins (nI k) = true := by
  unfold inp1
  rw [if_neg (nI_pos (by omega)), if_pos (show (8 : Int32) ≤ nI k from nI_le (a := 8) (by omega) (by omega))]
theorem inp1_v {ins : Nat → List Int32} {k : Nat} (h : k < 8) : inp1 ins (nI k) = !decide ((ins k).length = 0) := by
  unfold inp1
  rw [if_neg (nI_pos (by omega)), if_neg (show ¬ (8 : Int32) ≤ nI k from nI_ge h (by decide)), nI_clamp (by omega)]
theorem inpS_k {ins : Nat → List Int32} {k : Nat} (h : 100 ≤ k) (h4 : k ≤ 400) : inpS ins (nI k) = [nI k] := by
  unfold inpS
  rw [if_neg (nI_pos (by omega)), nI_clamp (by omega), if_neg (by omega)]
theorem inpS_v {ins : Nat → List Int32} {k : Nat} (h : k < 8) : inpS ins (nI k) = ins k := by
  unfold inpS
  rw [if_neg (nI_pos (by omega)), nI_clamp (by omega), if_pos h]
theorem all_s {f : Int32 → Bool} {l : List Int32} {i : Nat} (h : i < l.length) : (l.take (i + 1)).all f = ((l.take i).all f && f (l.getD i (-1))) := by
  rw [take_s h, List.all_append]
  simp
/-- a sign of a term that a run begins with -/
def sgB (s : Int32) : Prop := ∃ k, k ≤ 400 ∧ s = nI k ∧ (k < 8 ∨ 100 ≤ k)
theorem csW.gl {X : CS} (h : csW X) : ∀ s ∈ kG X, sgB s := fun s hs => by
  obtain ⟨k, hk, e, hg⟩ := (h.2.2.2.1.2 (fun z => by rw [z] at hs; cases hs)).2 s hs
  refine ⟨k, hk, e, ?_⟩
  unfold gA at hg
  omega
set_option maxRecDepth 10000 in
set_option maxHeartbeats 1000000 in
theorem c_Mo_hasInputs {G : Ctx} {d : Nat} {Γ : List Sh} {σ : Mem} {Q : Option Value → List Sh → Mem → Prop} {X : CS} (hM : MoS Γ σ) (hX : isMC σ X) (hW : csW X) (hQ : Q (some (.int (bI (aInp X)))) Γ σ) : Ct G M_Mo_hasInputs d 0 0 [rf G 391] Γ σ Q := by
  have hgl := hW.2.2.2.1.1
  have lp : ∀ (f i : Nat), i ≤ (kG X).length → (kG X).length < i + f → Wq G M_Mo_hasInputs (Em G d 0 0 Q) 0 0 4 [some (rf G 391), some (.int (bI (((kG X).take i).all (inp1 (kI X))))), some (.int (nI i))] [] [] Γ σ := by
    intro f
    induction f with
    | zero => intro i hi hf; omega
    | succ f ih =>
    intro i hi hf
    refine x_iload_n d_Mo_hasInputs_4 rfl rfl ?_
    first | refine x_aload_n d_Mo_hasInputs_5 rfl rfl ?_ | refine x_aloadN_n d_Mo_hasInputs_5 rfl rfl ?_ | refine x_aloadE_n d_Mo_hasInputs_5 rfl rfl ?_ | refine x_aloadO_n d_Mo_hasInputs_5 rfl rfl ?_
    refine x_getI d_Mo_hasInputs_6 f_Mo_135 rfl (by first | exact hM.1 | exact hM.s rfl | assumption) ?_
    rw [hX.2.2.2.1.1]
    refine x_icmp_ge (tgt := 53) d_Mo_hasInputs_9 (by decide) (fun c9 => ?_) (fun c9 => ?_)
    · have e : i = (kG X).length := by have := (nI_leI (by omega) (by omega)).mp c9; omega
      rw [e, List.take_length]
      refine x_iload_n d_Mo_hasInputs_53 rfl rfl ?_
      exact x_ireturn d_Mo_hasInputs_54 rfl (by first | rfl | (cases (kG X).all (inp1 (kI X)) <;> rfl)) hQ
    · have hil : i < (kG X).length := Nat.not_le.mp fun z => c9 (nI_le z (by omega))
      obtain ⟨k, hk, ek, hk8⟩ := hW.gl _ (getD_mem hil)
      have eg : σ.1 397 i = nI k := by have := hX.2.2.2.1.2 i hil; rw [Nat.zero_add] at this; rw [this, ek]
      refine x_iload_n d_Mo_hasInputs_12 rfl rfl ?_
      refine x_if_eq (tgt := 45) d_Mo_hasInputs_13 (by decide) (fun c13 => ?_) (fun c13 => ?_)
      · refine x_iconst (v := 0) d_Mo_hasInputs_45 (by decide) ?_
        refine x_istore_n d_Mo_hasInputs_46 rfl rfl ?_
        refine x_iinc (v := nI (i + 1)) d_Mo_hasInputs_47 rfl (nI_1 i) rfl ?_
        refine x_goto (tgt := 4) d_Mo_hasInputs_50 (by decide) ?_
        refine Wq.fg (ih (i + 1) (by omega) (by omega)) ⟨rfl, ?_, rfl, trivial⟩
        show some (Value.int _) = some (Value.int _)
        congr 2
        rw [all_s hil]
        first
        | (rw [bI_0 c13]; rfl)
        | (rw [bI_n0 c13, ek, inp1_k ((nI_leI (by decide) (by omega)).mp (show nI 100 ≤ nI k from c24)) hk]; rfl)
        | (rw [bI_n0 c13, ek, inp1_v hk8, decide_eq_true (show (kI X k).length = 0 from Nat.le_zero.mp ((nI_leI (by omega) (by decide)).mp (show nI _ ≤ nI 0 from c38)))]; rfl)
        | (rw [bI_n0 c13, ek, inp1_v hk8, decide_eq_false (show ¬ (kI X k).length = 0 from fun z => c38 (by rw [z]; decide))]; rfl)
      · first | refine x_aload_n d_Mo_hasInputs_16 rfl rfl ?_ | refine x_aloadN_n d_Mo_hasInputs_16 rfl rfl ?_ | refine x_aloadE_n d_Mo_hasInputs_16 rfl rfl ?_ | refine x_aloadO_n d_Mo_hasInputs_16 rfl rfl ?_
        refine x_getR d_Mo_hasInputs_17 f_Mo_26 rfl (by first | exact hM.1 | exact hM.s rfl | assumption) (hM.r rfl) ?_
        refine x_iload_n d_Mo_hasInputs_20 rfl rfl ?_
        refine x_iald d_Mo_hasInputs_21 (by first | exact hM.1 | exact hM.s rfl | assumption) (vp_in_nI (show i < 24 by omega) (by decide)) ?_
        rw [nI_clamp (by omega), eg]
        refine x_bipush (v := 100) d_Mo_hasInputs_22 (by decide) ?_
        refine x_icmp_ge (tgt := 41) d_Mo_hasInputs_24 (by decide) (fun c24 => ?_) (fun c24 => ?_)
        · refine x_iconst (v := 1) d_Mo_hasInputs_41 (by decide) ?_
          refine x_goto (tgt := 46) d_Mo_hasInputs_42 (by decide) ?_
          refine x_istore_n d_Mo_hasInputs_46 rfl rfl ?_
          refine x_iinc (v := nI (i + 1)) d_Mo_hasInputs_47 rfl (nI_1 i) rfl ?_
          refine x_goto (tgt := 4) d_Mo_hasInputs_50 (by decide) ?_
          refine Wq.fg (ih (i + 1) (by omega) (by omega)) ⟨rfl, ?_, rfl, trivial⟩
          show some (Value.int _) = some (Value.int _)
          congr 2
          rw [all_s hil]
          first
          | (rw [bI_0 c13]; rfl)
          | (rw [bI_n0 c13, ek, inp1_k ((nI_leI (by decide) (by omega)).mp (show nI 100 ≤ nI k from c24)) hk]; rfl)
          | (rw [bI_n0 c13, ek, inp1_v hk8, decide_eq_true (show (kI X k).length = 0 from Nat.le_zero.mp ((nI_leI (by omega) (by decide)).mp (show nI _ ≤ nI 0 from c38)))]; rfl)
          | (rw [bI_n0 c13, ek, inp1_v hk8, decide_eq_false (show ¬ (kI X k).length = 0 from fun z => c38 (by rw [z]; decide))]; rfl)
        · have hk8 : k < 8 := by have := (nI_ltI (by omega) (by decide)).mp (show nI k < nI 100 from Int32.not_le.mp c24); omega
          have hil8 := (hW.2.2.2.2.1 k hk8).1
          first | refine x_aload_n d_Mo_hasInputs_27 rfl rfl ?_ | refine x_aloadN_n d_Mo_hasInputs_27 rfl rfl ?_ | refine x_aloadE_n d_Mo_hasInputs_27 rfl rfl ?_ | refine x_aloadO_n d_Mo_hasInputs_27 rfl rfl ?_
          refine x_getR d_Mo_hasInputs_28 f_Mo_32 rfl (by first | exact hM.1 | exact hM.s rfl | assumption) (hM.r rfl) ?_
          first | refine x_aload_n d_Mo_hasInputs_31 rfl rfl ?_ | refine x_aloadN_n d_Mo_hasInputs_31 rfl rfl ?_ | refine x_aloadE_n d_Mo_hasInputs_31 rfl rfl ?_ | refine x_aloadO_n d_Mo_hasInputs_31 rfl rfl ?_
          refine x_getR d_Mo_hasInputs_32 f_Mo_26 rfl (by first | exact hM.1 | exact hM.s rfl | assumption) (hM.r rfl) ?_
          refine x_iload_n d_Mo_hasInputs_35 rfl rfl ?_
          refine x_iald d_Mo_hasInputs_36 (by first | exact hM.1 | exact hM.s rfl | assumption) (vp_in_nI (show i < 24 by omega) (by decide)) ?_
          rw [nI_clamp (by omega), eg]
          refine x_iald d_Mo_hasInputs_37 (by first | exact hM.1 | exact hM.s rfl | assumption) (vp_in_nI hk8 (by decide)) ?_
          rw [nI_clamp (by omega), (hX.2.2.2.2.1 k hk8).1]
          refine x_if_le (tgt := 45) d_Mo_hasInputs_38 (by decide) (fun c38 => ?_) (fun c38 => ?_)
          · refine x_iconst (v := 0) d_Mo_hasInputs_45 (by decide) ?_
            refine x_istore_n d_Mo_hasInputs_46 rfl rfl ?_
            refine x_iinc (v := nI (i + 1)) d_Mo_hasInputs_47 rfl (nI_1 i) rfl ?_
            refine x_goto (tgt := 4) d_Mo_hasInputs_50 (by decide) ?_
            refine Wq.fg (ih (i + 1) (by omega) (by omega)) ⟨rfl, ?_, rfl, trivial⟩
            show some (Value.int _) = some (Value.int _)
            congr 2
            rw [all_s hil]
            first
            | (rw [bI_0 c13]; rfl)
            | (rw [bI_n0 c13, ek, inp1_k ((nI_leI (by decide) (by omega)).mp (show nI 100 ≤ nI k from c24)) hk]; rfl)
            | (rw [bI_n0 c13, ek, inp1_v hk8, decide_eq_true (show (kI X k).length = 0 from Nat.le_zero.mp ((nI_leI (by omega) (by decide)).mp (show nI _ ≤ nI 0 from c38)))]; rfl)
            | (rw [bI_n0 c13, ek, inp1_v hk8, decide_eq_false (show ¬ (kI X k).length = 0 from fun z => c38 (by rw [z]; decide))]; rfl)
          · refine x_iconst (v := 1) d_Mo_hasInputs_41 (by decide) ?_
            refine x_goto (tgt := 46) d_Mo_hasInputs_42 (by decide) ?_
            refine x_istore_n d_Mo_hasInputs_46 rfl rfl ?_
            refine x_iinc (v := nI (i + 1)) d_Mo_hasInputs_47 rfl (nI_1 i) rfl ?_
            refine x_goto (tgt := 4) d_Mo_hasInputs_50 (by decide) ?_
            refine Wq.fg (ih (i + 1) (by omega) (by omega)) ⟨rfl, ?_, rfl, trivial⟩
            show some (Value.int _) = some (Value.int _)
            congr 2
            rw [all_s hil]
            first
            | (rw [bI_0 c13]; rfl)
            | (rw [bI_n0 c13, ek, inp1_k ((nI_leI (by decide) (by omega)).mp (show nI 100 ≤ nI k from c24)) hk]; rfl)
            | (rw [bI_n0 c13, ek, inp1_v hk8, decide_eq_true (show (kI X k).length = 0 from Nat.le_zero.mp ((nI_leI (by omega) (by decide)).mp (show nI _ ≤ nI 0 from c38)))]; rfl)
            | (rw [bI_n0 c13, ek, inp1_v hk8, decide_eq_false (show ¬ (kI X k).length = 0 from fun z => c38 (by rw [z]; decide))]; rfl)
  refine Ct.of (lv := [some (rf G 391), none, none]) (ll := []) rfl rfl (EN.cat (n := 2) ⟨rfl, trivial⟩ (Nat.le_of_ble_eq_true rfl)) ?_
  refine x_iconst (v := 1) d_Mo_hasInputs_0 (by decide) ?_
  refine x_istore_n d_Mo_hasInputs_1 rfl rfl ?_
  refine x_iconst (v := 0) d_Mo_hasInputs_2 (by decide) ?_
  refine x_istore_n d_Mo_hasInputs_3 rfl rfl ?_
  exact Wq.fg (lp ((kG X).length + 1) 0 (by omega) (by omega)) ⟨rfl, rfl, by rw [nI_0], trivial⟩
set_option maxRecDepth 10000 in
set_option maxHeartbeats 1000000 in
theorem c_Mo_begin {G : Ctx} {d : Nat} {Γ : List Sh} {σ : Mem} {Q : Option Value → List Sh → Mem → Prop} {X : CS} {bb : Bool} {src : List Int32} (hM : MoS Γ σ) (hX : isMC σ X) (hW : csW X) (hl : src.length ≤ 100) (hsg : ∀ s ∈ src, sgB s) (hst : bb = true → σ.1 414 0 = nI src.length ∧ seg σ 413 0 src) (hsf : bb = false → σ.1 391 7 = nI src.length ∧ src.length ≤ 24 ∧ seg σ 397 0 src) (hQ : ∀ τ, FrI [391, 415] σ τ → (∀ q, q ≠ 30 → τ.1 391 q = σ.1 391 q) → Rw τ (src.flatMap (inpS (kI X))) → Q none Γ τ) : Ct G M_Mo_begin (d + 1) 0 0 [rf G 391, .int (bI bb)] Γ σ Q := by
  have lp : ∀ (f i : Nat) (τ : Mem) (o4 o5 : Option Value), i ≤ src.length → src.length < i + f → FrI [391, 415] σ τ → (∀ q, q ≠ 30 → τ.1 391 q = σ.1 391 q) → Rw τ ((src.take i).flatMap (inpS (kI X))) → Wq G M_Mo_begin (Em G (d + 1) 0 0 Q) 0 0 25 [some (rf G 391), some (.int (bI bb)), some (.int (nI src.length)), some (.int (nI i)), o4, o5] [] [] Γ τ := by
    intro f
    induction f with
    | zero => intro i τ o4 o5 hi hf; omega
    | succ f ih =>
    intro i τ o4 o5 hi hf f0 h2 h3
    have hM0 := hM
    have hM := hM.fr f0
    refine x_iload_n d_Mo_begin_25 rfl rfl ?_
    refine x_iload_n d_Mo_begin_26 rfl rfl ?_
    refine x_icmp_ge (tgt := 115) d_Mo_begin_27 (by decide) (fun c27 => ?_) (fun c27 => ?_)
    · have e : i = src.length := by have := (nI_leI (by omega) (by omega)).mp c27; omega
      rw [e, List.take_length] at h3
      exact x_return d_Mo_begin_115 rfl (hQ τ f0 h2 h3)
    · have hil : i < src.length := Nat.not_le.mp fun z => c27 (nI_le z (by omega))
      obtain ⟨k, hk, ek, hk8⟩ := hsg _ (getD_mem hil)
      have hlen : ((src.take i).flatMap (inpS (kI X))).length ≤ 24 * i := by
        have := flat_le (l := src.take i) (f := inpS (kI X)) (m := 24) (fun s hs => by
          obtain ⟨q, hq, rfl, hq8⟩ := hsg s (List.mem_of_mem_take hs)
          rcases hq8 with z | z
          · rw [inpS_v z]; exact (hW.2.2.2.2.1 q z).1
          · rw [inpS_k z hq]; simp)
        rw [List.length_take] at this
        have h2 : min i src.length * 24 ≤ i * 24 := Nat.mul_le_mul_right _ (Nat.min_le_left _ _)
        omega
      have hnext : ∀ (τ : Mem) (o4 o5 : Option Value), FrI [391, 415] σ τ → (∀ q, q ≠ 30 → τ.1 391 q = σ.1 391 q) → Rw τ ((src.take (i + 1)).flatMap (inpS (kI X))) → Wq G M_Mo_begin (Em G (d + 1) 0 0 Q) 0 0 25 [some (rf G 391), some (.int (bI bb)), some (.int (nI src.length)), some (.int (nI (i + 1))), o4, o5] [] [] Γ τ := fun τ o4 o5 a1 a2 a3 => ih (i + 1) τ o4 o5 (by omega) (by omega) a1 a2 a3
      have l67 : ∀ (k : Nat), k < 8 → src.getD i (-1) = nI k → ∀ (f j : Nat) (τ : Mem), j ≤ (kI X k).length → (kI X k).length < j + f → FrI [391, 415] σ τ → (∀ q, q ≠ 30 → τ.1 391 q = σ.1 391 q) → Rw τ ((src.take i).flatMap (inpS (kI X)) ++ (kI X k).take j) → Wq G M_Mo_begin (Em G (d + 1) 0 0 Q) 0 0 67 [some (rf G 391), some (.int (bI bb)), some (.int (nI src.length)), some (.int (nI i)), some (.int (nI k)), some (.int (nI j))] [] [] Γ τ := by
        intro k hk8 ek
        have hkl := (hW.2.2.2.2.1 k hk8).1
        intro f
        induction f with
        | zero => intro j τ hj hf; omega
        | succ f ihj =>
        intro j τ hj hf f0 h2 h3
        have hM := hM0.fr f0
        refine x_iload d_Mo_begin_67 rfl ?_
        refine x_bipush (v := 100) d_Mo_begin_69 (by decide) ?_
        refine x_icmp_ge (tgt := 109) d_Mo_begin_71 (by decide) (fun c71 => ?_) (fun c71 => ?_)
        · exact absurd (show nI 100 ≤ nI k from c71) (nI_ge (by omega) (by decide))
        · refine x_iload d_Mo_begin_74 rfl ?_
          first | refine x_aload_n d_Mo_begin_76 rfl rfl ?_ | refine x_aloadN_n d_Mo_begin_76 rfl rfl ?_ | refine x_aloadE_n d_Mo_begin_76 rfl rfl ?_ | refine x_aloadO_n d_Mo_begin_76 rfl rfl ?_
          refine x_getR d_Mo_begin_77 f_Mo_32 rfl (by first | exact hM.1 | exact hM.s rfl | assumption) (hM.r rfl) ?_
          refine x_iload d_Mo_begin_80 rfl ?_
          refine x_iald d_Mo_begin_82 (by first | exact hM.1 | exact hM.s rfl | assumption) (vp_in_nI hk8 (by decide)) ?_
          rw [nI_clamp (by omega), f0.2 399 (by simp), (hX.2.2.2.2.1 k hk8).1]
          refine x_icmp_ge (tgt := 109) d_Mo_begin_83 (by decide) (fun c83 => ?_) (fun c83 => ?_)
          · have e : j = (kI X k).length := by have := (nI_leI (by omega) (by omega)).mp c83; omega
            rw [e, List.take_length] at h3
            refine x_iinc (v := nI (i + 1)) d_Mo_begin_109 rfl (nI_1 i) rfl ?_
            refine x_goto (tgt := 25) d_Mo_begin_112 (by decide) ?_
            exact Wq.fg (hnext τ _ _ f0 h2 (by rw [flat_s hil, ek, inpS_v hk8]; exact h3)) lsub_rf
          · have hjl : j < (kI X k).length := Nat.not_le.mp fun z => c83 (nI_le z (by omega))
            first | refine x_aload_n d_Mo_begin_86 rfl rfl ?_ | refine x_aloadN_n d_Mo_begin_86 rfl rfl ?_ | refine x_aloadE_n d_Mo_begin_86 rfl rfl ?_ | refine x_aloadO_n d_Mo_begin_86 rfl rfl ?_
            first | refine x_aload_n d_Mo_begin_87 rfl rfl ?_ | refine x_aloadN_n d_Mo_begin_87 rfl rfl ?_ | refine x_aloadE_n d_Mo_begin_87 rfl rfl ?_ | refine x_aloadO_n d_Mo_begin_87 rfl rfl ?_
            refine x_getR d_Mo_begin_88 f_Mo_29 rfl (by first | exact hM.1 | exact hM.s rfl | assumption) (hM.r rfl) ?_
            refine x_bipush (v := 24) d_Mo_begin_91 (by decide) ?_
            refine x_iload d_Mo_begin_93 rfl ?_
            refine x_imul d_Mo_begin_95 ?_
            first | rw [mul40] | rw [mul24] | rw [mul100] | rw [mul7] | skip
            refine x_iload d_Mo_begin_96 rfl ?_
            refine x_iadd d_Mo_begin_98 ?_
            first | rw [nI_add] | rw [nI_1] | skip
            refine x_iald d_Mo_begin_99 (by first | exact hM.1 | exact hM.s rfl | assumption) (vp_in_nI (show 24 * k + j < 192 by omega) (by decide)) ?_
            rw [nI_clamp (by omega), f0.2 398 (by simp), (hX.2.2.2.2.1 k hk8).2 j hjl]
            refine x_callV1 d_Mo_begin_100 k_Mo_put l_Mo_272 v_Mo_put rfl s_Mo_put (by first | exact hM.1 | exact hM.s rfl | assumption) RoomE.m (Nat.le_of_ble_eq_true rfl) (c_Mo_put hM h3.1 (by rw [List.length_append, List.length_take]; omega) ?_)
            refine x_iinc (v := nI (j + 1)) d_Mo_begin_103 rfl (nI_1 j) rfl ?_
            refine x_goto (tgt := 67) d_Mo_begin_106 (by decide) ?_
            exact Wq.fg (ihj (j + 1) _ (by omega) (by omega) ((f0.put (by simp)).put (by simp)) (fun q hq => by rw [wI_j hq, wI_o (by decide)]; exact h2 q hq) (h3.put' (by rw [take_s hjl, List.append_assoc]))) lsub_rf
      refine x_iload_n d_Mo_begin_30 rfl rfl ?_
      refine x_if_eq (tgt := 43) d_Mo_begin_31 (by decide) (fun c31 => ?_) (fun c31 => ?_)
      · first | refine x_aload_n d_Mo_begin_43 rfl rfl ?_ | refine x_aloadN_n d_Mo_begin_43 rfl rfl ?_ | refine x_aloadE_n d_Mo_begin_43 rfl rfl ?_ | refine x_aloadO_n d_Mo_begin_43 rfl rfl ?_
        refine x_getR d_Mo_begin_44 f_Mo_26 rfl (by first | exact hM.1 | exact hM.s rfl | assumption) (hM.r rfl) ?_
        refine x_iload_n d_Mo_begin_47 rfl rfl ?_
        refine x_iald d_Mo_begin_48 (by first | exact hM.1 | exact hM.s rfl | assumption) (vp_in_nI (show i < 24 by have := (hsf (bI_0 c31)).2.1; omega) (by decide)) ?_
        first
        | rw [ek]
        | rw [nI_clamp (by omega), f0.2 397 (by simp), show σ.1 397 i = src.getD i (-1) by have := (hsf (bI_0 c31)).2.2 i hil; rw [Nat.zero_add] at this; exact this, ek]
        | skip
        by_cases hk8 : k < 8
        · refine x_istore d_Mo_begin_49 rfl ?_
          refine x_iload d_Mo_begin_51 rfl ?_
          refine x_bipush (v := 100) d_Mo_begin_53 (by decide) ?_
          refine x_icmp_lt (tgt := 64) d_Mo_begin_55 (by decide) (fun c55 => ?_) (fun c55 => ?_)
          · refine x_iconst (v := 0) d_Mo_begin_64 (by decide) ?_
            refine x_istore d_Mo_begin_65 rfl ?_
            exact Wq.fg (l67 k hk8 ek ((kI X k).length + 1) 0 τ (by omega) (by omega) f0 h2 (by rw [List.take_zero, List.append_nil]; exact h3)) ⟨rfl, rfl, rfl, rfl, rfl, by rw [nI_0], trivial⟩
          · exact absurd (show nI k < nI 100 from nI_lt (by omega) (by decide)) c55
        · refine x_istore d_Mo_begin_49 rfl ?_
          refine x_iload d_Mo_begin_51 rfl ?_
          refine x_bipush (v := 100) d_Mo_begin_53 (by decide) ?_
          refine x_icmp_lt (tgt := 64) d_Mo_begin_55 (by decide) (fun c55 => ?_) (fun c55 => ?_)
          · exact absurd ((nI_ltI (by omega) (by decide)).mp (show nI k < nI 100 from c55)) (by omega)
          · first | refine x_aload_n d_Mo_begin_58 rfl rfl ?_ | refine x_aloadN_n d_Mo_begin_58 rfl rfl ?_ | refine x_aloadE_n d_Mo_begin_58 rfl rfl ?_ | refine x_aloadO_n d_Mo_begin_58 rfl rfl ?_
            refine x_iload d_Mo_begin_59 rfl ?_
            refine x_callV1 d_Mo_begin_61 k_Mo_put l_Mo_272 v_Mo_put rfl s_Mo_put (by first | exact hM.1 | exact hM.s rfl | assumption) RoomE.m (Nat.le_of_ble_eq_true rfl) (c_Mo_put hM h3.1 (by omega) ?_)
            refine x_iconst (v := 0) d_Mo_begin_64 (by decide) ?_
            refine x_istore d_Mo_begin_65 rfl ?_
            refine x_iload d_Mo_begin_67 rfl ?_
            refine x_bipush (v := 100) d_Mo_begin_69 (by decide) ?_
            refine x_icmp_ge (tgt := 109) d_Mo_begin_71 (by decide) (fun c71 => ?_) (fun c71 => ?_)
            · refine x_iinc (v := nI (i + 1)) d_Mo_begin_109 rfl (nI_1 i) rfl ?_
              refine x_goto (tgt := 25) d_Mo_begin_112 (by decide) ?_
              exact Wq.fg (hnext _ _ _ ((f0.put (by simp)).put (by simp)) (fun q hq => by rw [wI_j hq, wI_o (by decide)]; exact h2 q hq) (h3.put' (by rw [flat_s hil, ek, inpS_k (by omega) hk]))) lsub_rf
            · exact absurd (show nI 100 ≤ nI k from nI_le (by omega) (by omega)) c71
      · first | refine x_aload_n d_Mo_begin_34 rfl rfl ?_ | refine x_aloadN_n d_Mo_begin_34 rfl rfl ?_ | refine x_aloadE_n d_Mo_begin_34 rfl rfl ?_ | refine x_aloadO_n d_Mo_begin_34 rfl rfl ?_
        refine x_getR d_Mo_begin_35 f_Mo_74 rfl (by first | exact hM.1 | exact hM.s rfl | assumption) (hM.r rfl) ?_
        refine x_iload_n d_Mo_begin_38 rfl rfl ?_
        refine x_iald d_Mo_begin_39 (by first | exact hM.1 | exact hM.s rfl | assumption) (vp_in_nI (show i < 4800 by omega) (by decide)) ?_
        rw [nI_clamp (by omega), f0.2 413 (by simp), show σ.1 413 i = src.getD i (-1) by have := (hst (bI_n0 c31)).2 i hil; rw [Nat.zero_add] at this; exact this, ek]
        refine x_goto (tgt := 49) d_Mo_begin_40 (by decide) ?_
        first
        | rw [ek]
        | rw [nI_clamp (by omega), f0.2 397 (by simp), show σ.1 397 i = src.getD i (-1) by have := (hsf (bI_0 c31)).2.2 i hil; rw [Nat.zero_add] at this; exact this, ek]
        | skip
        by_cases hk8 : k < 8
        · refine x_istore d_Mo_begin_49 rfl ?_
          refine x_iload d_Mo_begin_51 rfl ?_
          refine x_bipush (v := 100) d_Mo_begin_53 (by decide) ?_
          refine x_icmp_lt (tgt := 64) d_Mo_begin_55 (by decide) (fun c55 => ?_) (fun c55 => ?_)
          · refine x_iconst (v := 0) d_Mo_begin_64 (by decide) ?_
            refine x_istore d_Mo_begin_65 rfl ?_
            exact Wq.fg (l67 k hk8 ek ((kI X k).length + 1) 0 τ (by omega) (by omega) f0 h2 (by rw [List.take_zero, List.append_nil]; exact h3)) ⟨rfl, rfl, rfl, rfl, rfl, by rw [nI_0], trivial⟩
          · exact absurd (show nI k < nI 100 from nI_lt (by omega) (by decide)) c55
        · refine x_istore d_Mo_begin_49 rfl ?_
          refine x_iload d_Mo_begin_51 rfl ?_
          refine x_bipush (v := 100) d_Mo_begin_53 (by decide) ?_
          refine x_icmp_lt (tgt := 64) d_Mo_begin_55 (by decide) (fun c55 => ?_) (fun c55 => ?_)
          · exact absurd ((nI_ltI (by omega) (by decide)).mp (show nI k < nI 100 from c55)) (by omega)
          · first | refine x_aload_n d_Mo_begin_58 rfl rfl ?_ | refine x_aloadN_n d_Mo_begin_58 rfl rfl ?_ | refine x_aloadE_n d_Mo_begin_58 rfl rfl ?_ | refine x_aloadO_n d_Mo_begin_58 rfl rfl ?_
            refine x_iload d_Mo_begin_59 rfl ?_
            refine x_callV1 d_Mo_begin_61 k_Mo_put l_Mo_272 v_Mo_put rfl s_Mo_put (by first | exact hM.1 | exact hM.s rfl | assumption) RoomE.m (Nat.le_of_ble_eq_true rfl) (c_Mo_put hM h3.1 (by omega) ?_)
            refine x_iconst (v := 0) d_Mo_begin_64 (by decide) ?_
            refine x_istore d_Mo_begin_65 rfl ?_
            refine x_iload d_Mo_begin_67 rfl ?_
            refine x_bipush (v := 100) d_Mo_begin_69 (by decide) ?_
            refine x_icmp_ge (tgt := 109) d_Mo_begin_71 (by decide) (fun c71 => ?_) (fun c71 => ?_)
            · refine x_iinc (v := nI (i + 1)) d_Mo_begin_109 rfl (nI_1 i) rfl ?_
              refine x_goto (tgt := 25) d_Mo_begin_112 (by decide) ?_
              exact Wq.fg (hnext _ _ _ ((f0.put (by simp)).put (by simp)) (fun q hq => by rw [wI_j hq, wI_o (by decide)]; exact h2 q hq) (h3.put' (by rw [flat_s hil, ek, inpS_k (by omega) hk]))) lsub_rf
            · exact absurd (show nI 100 ≤ nI k from nI_le (by omega) (by omega)) c71
  refine Ct.of (lv := [some (rf G 391), some (.int (bI bb)), none, none, none, none]) (ll := []) rfl rfl (EN.cat (n := 4) ⟨rfl, rfl, trivial⟩ (Nat.le_of_ble_eq_true rfl)) ?_
  first | refine x_aload_n d_Mo_begin_0 rfl rfl ?_ | refine x_aloadN_n d_Mo_begin_0 rfl rfl ?_ | refine x_aloadE_n d_Mo_begin_0 rfl rfl ?_ | refine x_aloadO_n d_Mo_begin_0 rfl rfl ?_
  refine x_iconst (v := 0) d_Mo_begin_1 (by decide) ?_
  refine x_putI d_Mo_begin_2 (w_Mo_m_157 _) rfl (by first | rfl | decide) (by first | rfl | decide) (by first | exact hM.1 | exact hM.s rfl | assumption) ?_
  refine x_iload_n d_Mo_begin_5 rfl rfl ?_
  refine x_if_eq (tgt := 18) d_Mo_begin_6 (by decide) (fun c6 => ?_) (fun c6 => ?_)
  · first | refine x_aload_n d_Mo_begin_18 rfl rfl ?_ | refine x_aloadN_n d_Mo_begin_18 rfl rfl ?_ | refine x_aloadE_n d_Mo_begin_18 rfl rfl ?_ | refine x_aloadO_n d_Mo_begin_18 rfl rfl ?_
    refine x_getI d_Mo_begin_19 f_Mo_135 rfl (by first | exact hM.1 | exact hM.s rfl | assumption) ?_
    rw [wI_j (by decide), (hsf (bI_0 c6)).1]
    refine x_istore_n d_Mo_begin_22 rfl rfl ?_
    refine x_iconst (v := 0) d_Mo_begin_23 (by decide) ?_
    refine x_istore_n d_Mo_begin_24 rfl rfl ?_
    exact Wq.fg (lp (src.length + 1) 0 _ none none (by omega) (by omega) (FrI.rf.put (by simp)) (fun q hq => wI_j hq) ⟨by rw [wI_s]; rfl, seg.nil⟩) ⟨rfl, rfl, rfl, by rw [nI_0], trivial⟩
  · first | refine x_aload_n d_Mo_begin_9 rfl rfl ?_ | refine x_aloadN_n d_Mo_begin_9 rfl rfl ?_ | refine x_aloadE_n d_Mo_begin_9 rfl rfl ?_ | refine x_aloadO_n d_Mo_begin_9 rfl rfl ?_
    refine x_getR d_Mo_begin_10 f_Mo_77 rfl (by first | exact hM.1 | exact hM.s rfl | assumption) (hM.r rfl) ?_
    refine x_iconst (v := 0) d_Mo_begin_13 (by decide) ?_
    rw [show (0 : Int32) = nI 0 from nI_0.symm]
    refine x_iald d_Mo_begin_14 (by first | exact hM.1 | exact hM.s rfl | assumption) (vp_in_nI (show 0 < 48 by decide) (by decide)) ?_
    rw [nI_clamp (by decide), wI_o (by decide), (hst (bI_n0 c6)).1]
    refine x_goto (tgt := 22) d_Mo_begin_15 (by decide) ?_
    refine x_istore_n d_Mo_begin_22 rfl rfl ?_
    refine x_iconst (v := 0) d_Mo_begin_23 (by decide) ?_
    refine x_istore_n d_Mo_begin_24 rfl rfl ?_
    exact Wq.fg (lp (src.length + 1) 0 _ none none (by omega) (by omega) (FrI.rf.put (by simp)) (fun q hq => wI_j hq) ⟨by rw [wI_s]; rfl, seg.nil⟩) ⟨rfl, rfl, rfl, by rw [nI_0], trivial⟩
