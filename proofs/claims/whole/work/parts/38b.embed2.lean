/-! Signs.isEmbedded -/
def RH (P : Int32 → Int32) (zi zo : List Int32) (M : Nat → Nat → Bool) (i j : Nat) : Bool := (List.range (nP P (zo.getD j (-1)))).any (fun k => M i (ends P zo (j + 1) k)) || (decide (i < zi.length) && cplB P zi zo M i j)
theorem any_cg {l : List Nat} {f g : Nat → Bool} (h : ∀ k ∈ l, f k = g k) : l.any f = l.any g := by
  induction l with
  | nil => rfl
  | cons a l ih =>
    rw [List.any_cons, List.any_cons, h a (List.mem_cons_self ..), ih (fun k hk => h k (List.mem_cons_of_mem _ hk))]
theorem all_cg {l : List Nat} {f g : Nat → Bool} (h : ∀ k ∈ l, f k = g k) : l.all f = l.all g := by
  induction l with
  | nil => rfl
  | cons a l ih =>
    rw [List.all_cons, List.all_cons, h a (List.mem_cons_self ..), ih (fun k hk => h k (List.mem_cons_of_mem _ hk))]
theorem cplB_cg {P : Int32 → Int32} {zi zo : List Int32} {M M' : Nat → Nat → Bool} {i j : Nat} (hP : PB P) (hz : zo.length ≤ 10000) (hf : full (nP P) 1 zo = true) (hj : j < zo.length) (h : ∀ k, k < nP P (zi.getD i (-1)) → zi.getD i (-1) = zo.getD j (-1) → M' (ends P zi (i + 1) k) (ends P zo (j + 1) k) = M (ends P zi (i + 1) k) (ends P zo (j + 1) k)) : cplB P zi zo M' i j = cplB P zi zo M i j := by
  unfold cplB
  split
  · rfl
  · by_cases e : zi.getD i (-1) = zo.getD j (-1)
    · rw [all_cg (fun k hk => h k (List.mem_range.mp hk) e)]
    · rw [decide_eq_false e, Bool.false_and, Bool.false_and]
theorem RH_cg {P : Int32 → Int32} {zi zo : List Int32} {M M' : Nat → Nat → Bool} {i j : Nat} (hP : PB P) (hz : zo.length ≤ 10000) (hf : full (nP P) 1 zo = true) (hj : j < zo.length) (h : ∀ i j', j < j' → M' i j' = M i j') : RH P zi zo M' i j = RH P zi zo M i j := by
  unfold RH
  rw [any_cg (fun k hk => h i _ (ends_lt hP hz hj hf (List.mem_range.mp hk)).2), cplB_cg hP hz hf hj (fun k hk e => h _ _ (ends_lt hP hz hj hf (by rw [← e]; exact hk)).2)]
/-- the marks, computed -/
def mF (P : Int32 → Int32) (zi zo : List Int32) : Nat → Nat → Nat → Bool
  | 0, _, _ => false
  | f + 1, i, j => RH P zi zo (mF P zi zo f) i j
theorem mF_of {P : Int32 → Int32} {zi zo : List Int32} {M : Nat → Nat → Bool} (hP : PB P) (hzi : zi.length ≤ 10000) (hz : zo.length ≤ 10000) (hfi : full (nP P) 1 zi = true) (hf : full (nP P) 1 zo = true) (h : ∀ i j, i < zi.length → j < zo.length → M i j = RH P zi zo M i j) : ∀ (f i j : Nat), i < zi.length → j < zo.length → zo.length ≤ f + j → M i j = mF P zi zo f i j
  | 0, i, j, hi, hj, hl => by omega
  | f + 1, i, j, hi, hj, hl => by
    rw [h i j hi hj]
    show RH P zi zo M i j = RH P zi zo (mF P zi zo f) i j
    unfold RH
    have ih := mF_of hP hzi hz hfi hf h f
    rw [any_cg (fun k hk => by
      have := ends_lt hP hz hj hf (List.mem_range.mp hk)
      exact ih i _ hi this.1 (by omega)), cplB_cg hP hz hf hj (fun k hk e => by
      have h1 := ends_lt hP hzi hi hfi hk
      have h2 := ends_lt hP hz hj hf (by rw [← e]; exact hk)
      exact ih _ _ h1.1 h2.1 (by omega))]
def embB (P : Int32 → Int32) (zi zo : List Int32) : Bool := decide (zi.length ≤ zo.length) && mF P zi zo zo.length 0 0
theorem Fr.wL {S : List Nat} {σ σ' : Mem} {a j : Nat} {v : Int64} (h : Fr S σ σ') (ha : a ∈ S) : Fr S σ (wL σ' a j v) := fun b hb => ⟨(h b hb).1, (h b hb).2.1, by
  have : b ≠ a := fun z => hb (by rw [z]; exact ha)
  rw [← (h b hb).2.2]
  funext i
  simp [Jvm.Pilot.CSuperDriverLaw_law_r9078_2f07ff.wL, this]⟩
theorem wL_s {σ : Mem} {a j i : Nat} {v : Int64} : mkM (wL σ a j v) a i j = bitL v i := by simp [mkM, wL]
theorem wL_j {σ : Mem} {a j j' i : Nat} {v : Int64} (h : j' ≠ j) : mkM (wL σ a j v) a i j' = mkM σ a i j' := by simp [mkM, wL, h]
set_option maxRecDepth 10000 in
set_option maxHeartbeats 1000000 in
theorem c_Signs_isEmbedded {G : Ctx} {d : Nat} {Γ : List Sh} {σ : Mem} {Q : Option Value → List Sh → Mem → Prop} {g : Nat} {pt : Nat → Int32} {cs : Nat → Bool} {r n ro m : Nat} {ys ws : List Int32} (hG : isSg Γ σ g pt cs) (hR : isRow Γ σ r n ys) (hO : isRow Γ σ ro m ws) (hP : PB (sgP pt)) (hl1 : (ys.take n).length ≤ 40) (hl2 : (ws.take m).length ≤ 40) (hfi : full (nP (sgP pt)) 1 (ys.take n) = true) (hfo : full (nP (sgP pt)) 1 (ws.take m) = true) (hd1 : r + 1 < g ∨ g + 5 < r) (hd2 : ro + 1 < g ∨ g + 5 < ro) (hQ : ∀ σ', Fr [g + 3, g + 4, g + 5] σ σ' → Q (some (.int (bI (embB (sgP pt) (ys.take n) (ws.take m))))) Γ σ') : Ct G M_Signs_isEmbedded (d + 2) 0 0 [rf G g, rf G r, rf G ro] Γ σ Q := by
  obtain ⟨⟨s1, s2, s3, s4, s5, s6⟩, ⟨r1, r2, r3, r4, r5⟩, sp, sc⟩ := id hG
  obtain ⟨a1, a2, a3, a4, a5, a6, a7⟩ := id hR
  obtain ⟨b1, b2, b3, b4, b5, b6, b7⟩ := id hO
  have hpi := full_ne (m := 0) hfi
  have hpo := full_ne (m := 0) hfo
  have lp : (ys.take n).length ≤ (ws.take m).length → ∀ (q : Nat) (τ : Mem), q ≤ (ws.take m).length → Fr [g + 3, g + 4, g + 5] σ τ → (∀ i, i < (ys.take n).length → τ.1 (g + 3) i = nI (behind (sgP pt) (ys.take n) i)) → (∀ i, i < (ws.take m).length → τ.1 (g + 4) i = nI (behind (sgP pt) (ws.take m) i)) → (∀ j, q ≤ j → j < (ws.take m).length → ∀ i, i < 40 → mkM τ (g + 5) i j = RH (sgP pt) (ys.take n) (ws.take m) (mkM τ (g + 5)) i j) → Wq G M_Signs_isEmbedded (Em G (d + 2) 0 0 Q) 0 0 54 [some (rf G g), some (rf G r), some (rf G ro), some (.int (nI q - 1)), none, none, none] [] [] Γ τ := by
    intro hle q
    induction q with
    | zero =>
      intro τ h1 f0 hEi hEo h2
      have hG1 := hG.Fr f0 (by simp) (by simp) (by simp)
      refine x_iload_n d_Signs_isEmbedded_54 rfl rfl ?_
      refine x_if_lt (tgt := 132) d_Signs_isEmbedded_55 (by decide) (fun c55 => ?_) (fun c55 => ?_)
      · first | refine x_aload_n d_Signs_isEmbedded_132 rfl rfl ?_ | refine x_aloadN_n d_Signs_isEmbedded_132 rfl rfl ?_ | refine x_aloadE_n d_Signs_isEmbedded_132 rfl rfl ?_ | refine x_aloadO_n d_Signs_isEmbedded_132 rfl rfl ?_
        refine x_iconst (v := 0) d_Signs_isEmbedded_133 (by decide) ?_
        refine x_iconst (v := 0) d_Signs_isEmbedded_134 (by decide) ?_
        refine x_callV2 d_Signs_isEmbedded_135 k_Signs_isMarked l_Signs_75 v_Signs_isMarked rfl s_Signs_isMarked (by assumption) RoomE.m (Nat.le_of_ble_eq_true rfl) (c_Signs_isMarked (i := 0) (j := 0) hG1 (by decide) (by decide) ?_)
        exact x_ireturn d_Signs_isEmbedded_138 rfl (bI_01 _) (by
          have hh := hQ τ f0
          rw [embB, decide_eq_true hle, Bool.true_and, ← mF_of (M := mkM τ (g + 5)) hP (by omega) (by omega) hfi hfo (fun i j h5 h6 => h2 j (Nat.zero_le _) h6 i (by omega)) _ 0 0 (by omega) (by omega) (by omega)] at hh
          exact hh)
      · exact absurd neg1 c55
    | succ q ih =>
      intro τ hq f0 hEi hEo h2
      have hG1 := hG.Fr f0 (by simp) (by simp) (by simp)
      have hR1 := hR.Fr f0 (by simp; omega) (by simp; omega)
      have hO1 := hO.Fr f0 (by simp; omega) (by simp; omega)
      have lp2 : ∀ (k i : Nat) (v : Int64), i ≤ (ys.take n).length → (ys.take n).length + 1 ≤ i + k → (∀ i5, bitL v i5 = ((List.range (nP (sgP pt) ((ws.take m).getD q (-1)))).any (fun k => mkM τ (g + 5) i5 (ends (sgP pt) (ws.take m) (q + 1) k)) || (decide (i5 < i) && cplB (sgP pt) (ys.take n) (ws.take m) (mkM τ (g + 5)) i5 q))) → Wq G M_Signs_isEmbedded (Em G (d + 2) 0 0 Q) 0 0 73 [some (rf G g), some (rf G r), some (rf G ro), some (.int (nI q)), none, none, some (.int (nI i))] [(4, v)] [] Γ τ := by
        intro k
        induction k with
        | zero => intro i v h1 h2; omega
        | succ k ih2 =>
          intro i v h1 h4 h3
          refine x_iload d_Signs_isEmbedded_73 rfl ?_
          first | refine x_aload_n d_Signs_isEmbedded_75 rfl rfl ?_ | refine x_aloadN_n d_Signs_isEmbedded_75 rfl rfl ?_ | refine x_aloadE_n d_Signs_isEmbedded_75 rfl rfl ?_ | refine x_aloadO_n d_Signs_isEmbedded_75 rfl rfl ?_
          refine x_callV0 d_Signs_isEmbedded_76 k_Row_length l_Signs_36 v_Row_length rfl s_Row_length (by assumption) RoomE.m (Nat.le_of_ble_eq_true rfl) (c_Row_length hR1 ?_)
          refine x_icmp_ge (tgt := 118) d_Signs_isEmbedded_79 (by decide) (fun c79 => ?_) (fun c79 => ?_)
          · have hil : (ys.take n).length ≤ i := by rw [nI_leI (by omega) (by omega)] at c79; exact c79
            have hi2 : i = (ys.take n).length := by omega
            subst hi2
            first | refine x_aload_n d_Signs_isEmbedded_118 rfl rfl ?_ | refine x_aloadN_n d_Signs_isEmbedded_118 rfl rfl ?_ | refine x_aloadE_n d_Signs_isEmbedded_118 rfl rfl ?_ | refine x_aloadO_n d_Signs_isEmbedded_118 rfl rfl ?_
            refine x_getR d_Signs_isEmbedded_119 f_Signs_25 rfl (by assumption) (by rw [(f0 g (by simp)).2.1]; exact r5) ?_
            refine x_iload_n d_Signs_isEmbedded_122 rfl rfl ?_
            refine x_lload d_Signs_isEmbedded_123 (by first | exact .head _ | exact .tail _ (.head _) | simp) ?_
            refine x_last d_Signs_isEmbedded_125 (by assumption) (vp_in_nI (by omega) (by decide)) ?_
            refine x_iinc (v := nI q - 1) d_Signs_isEmbedded_126 rfl (by rw [Int32.sub_eq_add_neg]; rfl) rfl ?_
            refine x_goto (tgt := 54) d_Signs_isEmbedded_129 (by decide) ?_
            rw [nI_clamp (show q < 2 ^ 31 by omega)]
            exact Wq.fgl (ih _ (by omega) (f0.wL (by simp)) hEi hEo (fun j h5 h6 i5 h7 => by
              by_cases e5 : j = q
              · subst e5
                rw [wL_s, h3 i5, RH_cg (M := mkM τ (g + 5)) hP (by omega) hfo h6 (fun a b hb => wL_j (by omega))]
                rfl
              · rw [wL_j e5, h2 j (by omega) h6 i5 h7, RH_cg (M := mkM τ (g + 5)) hP (by omega) hfo h6 (fun a b hb => wL_j (by omega))])) ⟨rfl, rfl, rfl, rfl, trivial⟩ (fun q hq => by cases hq)
          · have hil : i < (ys.take n).length := Nat.not_le.mp fun z => c79 (nI_le z (by omega))
            first | refine x_aload_n d_Signs_isEmbedded_82 rfl rfl ?_ | refine x_aloadN_n d_Signs_isEmbedded_82 rfl rfl ?_ | refine x_aloadE_n d_Signs_isEmbedded_82 rfl rfl ?_ | refine x_aloadO_n d_Signs_isEmbedded_82 rfl rfl ?_
            first | refine x_aload_n d_Signs_isEmbedded_83 rfl rfl ?_ | refine x_aloadN_n d_Signs_isEmbedded_83 rfl rfl ?_ | refine x_aloadE_n d_Signs_isEmbedded_83 rfl rfl ?_ | refine x_aloadO_n d_Signs_isEmbedded_83 rfl rfl ?_
            refine x_iload d_Signs_isEmbedded_84 rfl ?_
            refine x_callV1 d_Signs_isEmbedded_86 k_Row_at l_Signs_42 v_Row_at rfl s_Row_at (by assumption) RoomE.m (Nat.le_of_ble_eq_true rfl) (c_Row_at hR1 ?_)
            rw [atI_nI (by omega)]
            refine x_iload d_Signs_isEmbedded_89 rfl ?_
            first | refine x_aload_n d_Signs_isEmbedded_91 rfl rfl ?_ | refine x_aloadN_n d_Signs_isEmbedded_91 rfl rfl ?_ | refine x_aloadE_n d_Signs_isEmbedded_91 rfl rfl ?_ | refine x_aloadO_n d_Signs_isEmbedded_91 rfl rfl ?_
            refine x_iload_n d_Signs_isEmbedded_92 rfl rfl ?_
            refine x_callV1 d_Signs_isEmbedded_93 k_Row_at l_Signs_42 v_Row_at rfl s_Row_at (by assumption) RoomE.m (Nat.le_of_ble_eq_true rfl) (c_Row_at hO1 ?_)
            rw [atI_nI (by omega)]
            refine x_iload_n d_Signs_isEmbedded_96 rfl rfl ?_
            refine x_callV4 d_Signs_isEmbedded_97 k_Signs_couples l_Signs_71 v_Signs_couples rfl s_Signs_couples (by assumption) RoomE.m (Nat.le_of_ble_eq_true rfl) (c_Signs_couples hG1 hP hl1 hl2 hfi hfo hil hq hEi hEo ?_)
            refine x_if_eq (tgt := 112) d_Signs_isEmbedded_100 (by decide) (fun c100 => ?_) (fun c100 => ?_)
            · refine x_iinc (v := nI (i + 1)) d_Signs_isEmbedded_112 rfl (nI_1 i) rfl ?_
              refine x_goto (tgt := 73) d_Signs_isEmbedded_115 (by decide) ?_
              exact Wq.fgl (ih2 (i + 1) v (by omega) (by omega) (fun i5 => by
                rw [h3 i5]
                by_cases e5 : i5 = i
                · subst e5
                  rw [bI_0 c100, decide_eq_false (Nat.lt_irrefl _), decide_eq_true (Nat.lt_succ_self _), Bool.false_and, Bool.or_false]; simp
                · rw [show decide (i5 < i + 1) = decide (i5 < i) from decide_eq_decide.mpr (by omega)])) ⟨rfl, rfl, rfl, rfl, rfl, trivial⟩ (fun q hq => by rw [List.mem_singleton.mp hq]; exact .head _)
            · refine x_lload d_Signs_isEmbedded_103 (by first | exact .head _ | exact .tail _ (.head _) | simp) ?_
              refine x_lconst (v := 1) d_Signs_isEmbedded_105 (by decide) ?_
              refine x_iload d_Signs_isEmbedded_106 rfl ?_
              refine x_lshl d_Signs_isEmbedded_108 ?_
              refine x_lor d_Signs_isEmbedded_109 ?_
              refine x_lstore d_Signs_isEmbedded_110 rfl ?_
              refine x_iinc (v := nI (i + 1)) d_Signs_isEmbedded_112 rfl (nI_1 i) rfl ?_
              refine x_goto (tgt := 73) d_Signs_isEmbedded_115 (by decide) ?_
              exact Wq.fgl (ih2 (i + 1) (v ||| ((1 : Int64) <<< ((nI i).toInt64 &&& 63))) (by omega) (by omega) (fun i5 => by
                rw [bitL_or, h3 i5, shl_one (show i < 64 by omega)]
                by_cases e5 : i5 = i
                · subst e5
                  rw [bI_n0 c100, decide_eq_false (Nat.lt_irrefl _), decide_eq_true (Nat.lt_succ_self _), Bool.false_and, Bool.or_false]
                  simp
                · rw [show decide (i5 < i + 1) = decide (i5 < i) from decide_eq_decide.mpr (by omega)]
                  simp [e5])) ⟨rfl, rfl, rfl, rfl, rfl, trivial⟩ (fun q hq => by rw [List.mem_singleton.mp hq]; exact .head _)
      rw [nI_m1]
      refine x_iload_n d_Signs_isEmbedded_54 rfl rfl ?_
      refine x_if_lt (tgt := 132) d_Signs_isEmbedded_55 (by decide) (fun c55 => ?_) (fun c55 => ?_)
      · exact absurd c55 (nI_nneg _ (by omega))
      · first | refine x_aload_n d_Signs_isEmbedded_58 rfl rfl ?_ | refine x_aloadN_n d_Signs_isEmbedded_58 rfl rfl ?_ | refine x_aloadE_n d_Signs_isEmbedded_58 rfl rfl ?_ | refine x_aloadO_n d_Signs_isEmbedded_58 rfl rfl ?_
        first | refine x_aload_n d_Signs_isEmbedded_59 rfl rfl ?_ | refine x_aloadN_n d_Signs_isEmbedded_59 rfl rfl ?_ | refine x_aloadE_n d_Signs_isEmbedded_59 rfl rfl ?_ | refine x_aloadO_n d_Signs_isEmbedded_59 rfl rfl ?_
        refine x_iload_n d_Signs_isEmbedded_60 rfl rfl ?_
        refine x_callV1 d_Signs_isEmbedded_61 k_Row_at l_Signs_42 v_Row_at rfl s_Row_at (by assumption) RoomE.m (Nat.le_of_ble_eq_true rfl) (c_Row_at hO1 ?_)
        rw [atI_nI (by omega)]
        refine x_iload_n d_Signs_isEmbedded_64 rfl rfl ?_
        refine x_callV2 d_Signs_isEmbedded_65 k_Signs_embeddedInParts l_Signs_67 v_Signs_embeddedInParts rfl s_Signs_embeddedInParts (by assumption) RoomE.m (Nat.le_of_ble_eq_true rfl) (c_Signs_embeddedInParts hG1 hP hl2 hfo hq hEo (fun v hv => ?_))
        refine x_lstore d_Signs_isEmbedded_68 rfl ?_
        refine x_iconst (v := 0) d_Signs_isEmbedded_70 (by decide) ?_
        refine x_istore d_Signs_isEmbedded_71 rfl ?_
        exact Wq.fgl (lp2 ((ys.take n).length + 1) 0 v (by omega) (by omega) (fun i5 => by rw [hv i5, decide_eq_false (Nat.not_lt_zero _), Bool.false_and, Bool.or_false]; rfl)) ⟨rfl, rfl, rfl, rfl, by rw [nI_0], trivial⟩ (fun q hq => by rw [List.mem_singleton.mp hq]; exact .head _)
  refine Ct.of (lv := [some (rf G g), some (rf G r), some (rf G ro), none, none, none, none]) (ll := []) rfl rfl (EN.cat (n := 4) ⟨rfl, rfl, rfl, trivial⟩ (Nat.le_of_ble_eq_true rfl)) ?_
  first | refine x_aload_n d_Signs_isEmbedded_0 rfl rfl ?_ | refine x_aloadN_n d_Signs_isEmbedded_0 rfl rfl ?_ | refine x_aloadE_n d_Signs_isEmbedded_0 rfl rfl ?_ | refine x_aloadO_n d_Signs_isEmbedded_0 rfl rfl ?_
  refine x_callV0 d_Signs_isEmbedded_1 k_Row_isEmpty l_Signs_59 v_Row_isEmpty rfl s_Row_isEmpty (by assumption) RoomE.m (Nat.le_of_ble_eq_true rfl) (c_Row_isEmpty hR ?_)
  refine x_if_ne (tgt := 27) d_Signs_isEmbedded_4 (by decide) (fun c4 => ?_) (fun c4 => ?_)
  · exact absurd (of_decide_eq_true (bI_n0 c4)) (by omega)
  · first | refine x_aload_n d_Signs_isEmbedded_7 rfl rfl ?_ | refine x_aloadN_n d_Signs_isEmbedded_7 rfl rfl ?_ | refine x_aloadE_n d_Signs_isEmbedded_7 rfl rfl ?_ | refine x_aloadO_n d_Signs_isEmbedded_7 rfl rfl ?_
    refine x_callV0 d_Signs_isEmbedded_8 k_Row_length l_Signs_36 v_Row_length rfl s_Row_length (by assumption) RoomE.m (Nat.le_of_ble_eq_true rfl) (c_Row_length hR ?_)
    first | refine x_aload_n d_Signs_isEmbedded_11 rfl rfl ?_ | refine x_aloadN_n d_Signs_isEmbedded_11 rfl rfl ?_ | refine x_aloadE_n d_Signs_isEmbedded_11 rfl rfl ?_ | refine x_aloadO_n d_Signs_isEmbedded_11 rfl rfl ?_
    refine x_callV0 d_Signs_isEmbedded_12 k_Row_length l_Signs_36 v_Row_length rfl s_Row_length (by assumption) RoomE.m (Nat.le_of_ble_eq_true rfl) (c_Row_length hO ?_)
    refine x_icmp_gt (tgt := 27) d_Signs_isEmbedded_15 (by decide) (fun c15 => ?_) (fun c15 => ?_)
    · have hle : ¬ (ys.take n).length ≤ (ws.take m).length := by rw [nI_ltI (by omega) (by omega)] at c15; omega
      refine x_iconst (v := 0) d_Signs_isEmbedded_27 (by decide) ?_
      exact x_ireturn d_Signs_isEmbedded_28 rfl (by decide) (by have hh := hQ σ Fr.rf; rw [embB, decide_eq_false hle, Bool.false_and] at hh; exact hh)
    · have hle : (ys.take n).length ≤ (ws.take m).length := by rw [nI_ltI (by omega) (by omega)] at c15; omega
      first | refine x_aload_n d_Signs_isEmbedded_18 rfl rfl ?_ | refine x_aloadN_n d_Signs_isEmbedded_18 rfl rfl ?_ | refine x_aloadE_n d_Signs_isEmbedded_18 rfl rfl ?_ | refine x_aloadO_n d_Signs_isEmbedded_18 rfl rfl ?_
      refine x_callV0 d_Signs_isEmbedded_19 k_Row_length l_Signs_36 v_Row_length rfl s_Row_length (by assumption) RoomE.m (Nat.le_of_ble_eq_true rfl) (c_Row_length hO ?_)
      refine x_bipush (v := 40) d_Signs_isEmbedded_22 (by decide) ?_
      refine x_icmp_le (tgt := 29) d_Signs_isEmbedded_24 (by decide) (fun c24 => ?_) (fun c24 => ?_)
      · first | refine x_aload_n d_Signs_isEmbedded_29 rfl rfl ?_ | refine x_aloadN_n d_Signs_isEmbedded_29 rfl rfl ?_ | refine x_aloadE_n d_Signs_isEmbedded_29 rfl rfl ?_ | refine x_aloadO_n d_Signs_isEmbedded_29 rfl rfl ?_
        first | refine x_aload_n d_Signs_isEmbedded_30 rfl rfl ?_ | refine x_aloadN_n d_Signs_isEmbedded_30 rfl rfl ?_ | refine x_aloadE_n d_Signs_isEmbedded_30 rfl rfl ?_ | refine x_aloadO_n d_Signs_isEmbedded_30 rfl rfl ?_
        first | refine x_aload_n d_Signs_isEmbedded_31 rfl rfl ?_ | refine x_aloadN_n d_Signs_isEmbedded_31 rfl rfl ?_ | refine x_aloadE_n d_Signs_isEmbedded_31 rfl rfl ?_ | refine x_aloadO_n d_Signs_isEmbedded_31 rfl rfl ?_
        refine x_getR d_Signs_isEmbedded_32 f_Signs_19 rfl (by assumption) (by assumption) ?_
        refine x_callV2 d_Signs_isEmbedded_35 k_Signs_findEnds l_Signs_63 v_Signs_findEnds rfl s_Signs_findEnds (by assumption) RoomE.m (Nat.le_of_ble_eq_true rfl) (c_Signs_findEnds hG hR s4 (Or.inl rfl) (by omega) hP hl1 hfi (fun τ1 e1 f1 => ?_))
        first | refine x_aload_n d_Signs_isEmbedded_38 rfl rfl ?_ | refine x_aloadN_n d_Signs_isEmbedded_38 rfl rfl ?_ | refine x_aloadE_n d_Signs_isEmbedded_38 rfl rfl ?_ | refine x_aloadO_n d_Signs_isEmbedded_38 rfl rfl ?_
        first | refine x_aload_n d_Signs_isEmbedded_39 rfl rfl ?_ | refine x_aloadN_n d_Signs_isEmbedded_39 rfl rfl ?_ | refine x_aloadE_n d_Signs_isEmbedded_39 rfl rfl ?_ | refine x_aloadO_n d_Signs_isEmbedded_39 rfl rfl ?_
        first | refine x_aload_n d_Signs_isEmbedded_40 rfl rfl ?_ | refine x_aloadN_n d_Signs_isEmbedded_40 rfl rfl ?_ | refine x_aloadE_n d_Signs_isEmbedded_40 rfl rfl ?_ | refine x_aloadO_n d_Signs_isEmbedded_40 rfl rfl ?_
        refine x_getR d_Signs_isEmbedded_41 f_Signs_22 rfl (by assumption) (by rw [f1.1]; exact r4) ?_
        refine x_callV2 d_Signs_isEmbedded_44 k_Signs_findEnds l_Signs_63 v_Signs_findEnds rfl s_Signs_findEnds (by assumption) RoomE.m (Nat.le_of_ble_eq_true rfl) (c_Signs_findEnds (hG.fr f1 (by simp) (by simp)) (hO.fr f1 (by simp; omega) (by simp; omega)) s5 (Or.inr rfl) (by omega) hP hl2 hfo (fun τ2 e2 f2 => ?_))
        first | refine x_aload_n d_Signs_isEmbedded_47 rfl rfl ?_ | refine x_aloadN_n d_Signs_isEmbedded_47 rfl rfl ?_ | refine x_aloadE_n d_Signs_isEmbedded_47 rfl rfl ?_ | refine x_aloadO_n d_Signs_isEmbedded_47 rfl rfl ?_
        refine x_callV0 d_Signs_isEmbedded_48 k_Row_length l_Signs_36 v_Row_length rfl s_Row_length (by assumption) RoomE.m (Nat.le_of_ble_eq_true rfl) (c_Row_length ((hO.fr f1 (by simp; omega) (by simp; omega)).fr f2 (by simp; omega) (by simp; omega)) ?_)
        refine x_iconst (v := 1) d_Signs_isEmbedded_51 (by decide) ?_
        refine x_isub d_Signs_isEmbedded_52 ?_
        refine x_istore_n d_Signs_isEmbedded_53 rfl rfl ?_
        exact Wq.fg (lp hle (ws.take m).length τ2 (Nat.le_refl _) ((f1.fr.mono (by simp)).tr (f2.fr.mono (by simp))) (fun i hi => by rw [f2.2 _ (by simp)]; exact e1 i hi) e2 (fun j h5 h6 => absurd h6 (by omega))) ⟨rfl, rfl, rfl, rfl, trivial⟩
      · exact absurd (nI_le (b := 40) hl2 (by decide)) c24
