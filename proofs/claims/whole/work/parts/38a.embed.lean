set_option maxRecDepth 10000 in
set_option maxHeartbeats 1000000 in
theorem c_Signs_findEnds {G : Ctx} {d : Nat} {Γ : List Sh} {σ : Mem} {Q : Option Value → List Sh → Mem → Prop} {g : Nat} {pt : Nat → Int32} {cs : Nat → Bool} {r n e : Nat} {ys : List Int32} (hG : isSg Γ σ g pt cs) (hR : isRow Γ σ r n ys) (he : Γ[e]? = some (1, 40)) (hge : e = g + 3 ∨ e = g + 4) (hre : r + 1 ≠ e) (hP : PB (sgP pt)) (hl : (ys.take n).length ≤ 40) (hf : full (nP (sgP pt)) 1 (ys.take n) = true) (hQ : ∀ σ', (∀ i, i < (ys.take n).length → σ'.1 e i = nI (behind (sgP pt) (ys.take n) i)) → FrI [e] σ σ' → Q none Γ σ') : Ct G M_Signs_findEnds (d + 1) 0 0 [rf G g, rf G r, rf G e] Γ σ Q := by
  obtain ⟨⟨s1, s2, s3, s4, s5, s6⟩, ⟨r1, r2, r3, r4, r5⟩, sp, sc⟩ := id hG
  obtain ⟨a1, a2, a3, a4, a5, a6, a7⟩ := id hR
  have hz : (ys.take n).length ≤ 10000 := by omega
  have heg : e ≠ g ∧ e ≠ g + 1 ∧ e ≠ g + 2 := by rcases hge with z | z <;> omega
  have hre0 : r ≠ e := fun z => by rw [z, he] at a1; cases a1
  have lp : ∀ (m : Nat) (τ : Mem), m ≤ (ys.take n).length → (∀ i, m ≤ i → i < (ys.take n).length → τ.1 e i = nI (behind (sgP pt) (ys.take n) i)) → FrI [e] σ τ → Wq G M_Signs_findEnds (Em G (d + 1) 0 0 Q) 0 0 15 [some (rf G g), some (rf G r), some (rf G e), some (.int (nI (ys.take n).length)), some (.int (nI m - 1)), none, none] [] [] Γ τ := by
    intro m
    induction m with
    | zero =>
      intro τ h1 h2 f0
      refine x_iload d_Signs_findEnds_15 rfl ?_
      refine x_if_lt (tgt := 73) d_Signs_findEnds_17 (by decide) (fun c17 => ?_) (fun c17 => ?_)
      · exact x_return d_Signs_findEnds_73 rfl (hQ _ (fun i hi => h2 i (Nat.zero_le _) hi) f0)
      · exact absurd neg1 c17
    | succ m ih =>
      intro τ h1 h2 f0
      have hG1 := hG.fr f0 (by simp; omega) (by simp; omega)
      have hR1 := hR.fr f0 (by simp; omega) (by simp; omega)
      have hpp := hP.le ((ys.take n).getD m (-1))
      have lp2 : ∀ (k t : Nat), k + t = nP (sgP pt) ((ys.take n).getD m (-1)) → Wq G M_Signs_findEnds (Em G (d + 1) 0 0 Q) 0 0 38 [some (rf G g), some (rf G r), some (rf G e), some (.int (nI (ys.take n).length)), some (.int (nI m)), some (.int (nI (ends (sgP pt) (ys.take n) (m + 1) t))), some (.int (nI k))] [] [] Γ τ := by
        intro k
        induction k with
        | zero =>
          intro t hkt
          refine x_iload d_Signs_findEnds_38 rfl ?_
          refine x_if_le (tgt := 61) d_Signs_findEnds_40 (by decide) (fun c40 => ?_) (fun c40 => ?_)
          · first | refine x_aload_n d_Signs_findEnds_61 rfl rfl ?_ | refine x_aloadN_n d_Signs_findEnds_61 rfl rfl ?_ | refine x_aloadE_n d_Signs_findEnds_61 rfl rfl ?_ | refine x_aloadO_n d_Signs_findEnds_61 rfl rfl ?_
            refine x_iload d_Signs_findEnds_62 rfl ?_
            refine x_iload d_Signs_findEnds_64 rfl ?_
            refine x_iast d_Signs_findEnds_66 (by assumption) (vp_in_nI (by omega) (by decide)) ?_
            refine x_iinc (v := nI m - 1) d_Signs_findEnds_67 rfl (by rw [Int32.sub_eq_add_neg]; rfl) rfl ?_
            refine x_goto (tgt := 15) d_Signs_findEnds_70 (by decide) ?_
            rw [nI_clamp (show m < 2 ^ 31 by omega)]
            exact Wq.fg (ih _ (by omega) (fun i h5 h6 => by
              by_cases e2 : i = m
              · subst e2
                rw [wI_s, behind_ends hP hz h6]
                congr 2
                show t = nP (sgP pt) _
                omega
              · rw [wI_j e2]
                exact h2 i (by omega) h6) (f0.put (by simp))) ⟨rfl, rfl, rfl, rfl, rfl, trivial⟩
          · exact absurd ((nI_le0 (by omega)).mpr rfl) c40
        | succ k ih2 =>
          intro t hkt
          have hlt := ends_lt hP hz (i := m) (k := t) h1 hf (by omega)
          refine x_iload d_Signs_findEnds_38 rfl ?_
          refine x_if_le (tgt := 61) d_Signs_findEnds_40 (by decide) (fun c40 => ?_) (fun c40 => ?_)
          · exact absurd ((nI_le0 (by omega)).mp c40) (by omega)
          · refine x_iload d_Signs_findEnds_43 rfl ?_
            refine x_iload_n d_Signs_findEnds_45 rfl rfl ?_
            refine x_icmp_ge (tgt := 61) d_Signs_findEnds_46 (by decide) (fun c46 => ?_) (fun c46 => ?_)
            · exact absurd c46 (nI_ge hlt.1 (by omega))
            · first | refine x_aload_n d_Signs_findEnds_49 rfl rfl ?_ | refine x_aloadN_n d_Signs_findEnds_49 rfl rfl ?_ | refine x_aloadE_n d_Signs_findEnds_49 rfl rfl ?_ | refine x_aloadO_n d_Signs_findEnds_49 rfl rfl ?_
              refine x_iload d_Signs_findEnds_50 rfl ?_
              refine x_iald d_Signs_findEnds_52 (by assumption) (vp_in_nI (by omega) (by decide)) ?_
              rw [nI_clamp (by omega), h2 _ (by omega) hlt.1]
              refine x_istore d_Signs_findEnds_53 rfl ?_
              refine x_iinc (v := nI k) d_Signs_findEnds_55 rfl (nI_d1 k) rfl ?_
              refine x_goto (tgt := 38) d_Signs_findEnds_58 (by decide) ?_
              exact Wq.fg (ih2 (t + 1) (by omega)) ⟨rfl, rfl, rfl, rfl, rfl, rfl, rfl, trivial⟩
      rw [nI_m1]
      refine x_iload d_Signs_findEnds_15 rfl ?_
      refine x_if_lt (tgt := 73) d_Signs_findEnds_17 (by decide) (fun c17 => ?_) (fun c17 => ?_)
      · exact absurd c17 (nI_nneg _ (by omega))
      · refine x_iload d_Signs_findEnds_20 rfl ?_
        refine x_iconst (v := 1) d_Signs_findEnds_22 (by decide) ?_
        refine x_iadd d_Signs_findEnds_23 ?_
        rw [nI_1]
        refine x_istore d_Signs_findEnds_24 rfl ?_
        first | refine x_aload_n d_Signs_findEnds_26 rfl rfl ?_ | refine x_aloadN_n d_Signs_findEnds_26 rfl rfl ?_ | refine x_aloadE_n d_Signs_findEnds_26 rfl rfl ?_ | refine x_aloadO_n d_Signs_findEnds_26 rfl rfl ?_
        first | refine x_aload_n d_Signs_findEnds_27 rfl rfl ?_ | refine x_aloadN_n d_Signs_findEnds_27 rfl rfl ?_ | refine x_aloadE_n d_Signs_findEnds_27 rfl rfl ?_ | refine x_aloadO_n d_Signs_findEnds_27 rfl rfl ?_
        refine x_iload d_Signs_findEnds_28 rfl ?_
        refine x_callV1 d_Signs_findEnds_30 k_Row_at l_Signs_42 v_Row_at rfl s_Row_at (by assumption) RoomE.m (Nat.le_of_ble_eq_true rfl) (c_Row_at hR1 ?_)
        rw [atI_nI (by omega)]
        refine x_callV1 d_Signs_findEnds_33 k_Signs_partsOf l_Signs_46 v_Signs_partsOf rfl s_Signs_partsOf (by assumption) RoomE.m (Nat.le_of_ble_eq_true rfl) (c_Signs_partsOf hG1 ?_)
        rw [(hP.le _).2]
        refine x_istore d_Signs_findEnds_36 rfl ?_
        exact Wq.fg (lp2 (nP (sgP pt) ((ys.take n).getD m (-1))) 0 (by omega)) ⟨rfl, rfl, rfl, rfl, rfl, rfl, rfl, trivial⟩
  refine Ct.of (lv := [some (rf G g), some (rf G r), some (rf G e), none, none, none, none]) (ll := []) rfl rfl (EN.cat (n := 4) ⟨rfl, rfl, rfl, trivial⟩ (Nat.le_of_ble_eq_true rfl)) ?_
  first | refine x_aload_n d_Signs_findEnds_0 rfl rfl ?_ | refine x_aloadN_n d_Signs_findEnds_0 rfl rfl ?_ | refine x_aloadE_n d_Signs_findEnds_0 rfl rfl ?_ | refine x_aloadO_n d_Signs_findEnds_0 rfl rfl ?_
  refine x_callV0 d_Signs_findEnds_1 k_Row_length l_Signs_36 v_Row_length rfl s_Row_length (by assumption) RoomE.m (Nat.le_of_ble_eq_true rfl) (c_Row_length hR ?_)
  first | refine x_aload_n d_Signs_findEnds_4 rfl rfl ?_ | refine x_aloadN_n d_Signs_findEnds_4 rfl rfl ?_ | refine x_aloadE_n d_Signs_findEnds_4 rfl rfl ?_ | refine x_aloadO_n d_Signs_findEnds_4 rfl rfl ?_
  refine x_alen d_Signs_findEnds_5 (by assumption) (by decide) rfl ?_
  refine x_mmin d_Signs_findEnds_6 l_Signs_82 z_mmin ini_Math k_mmin RoomL.m (Nat.le_of_ble_eq_true rfl) ?_
  rw [show (if Int32.ofNat 40 < nI (ys.take n).length then Int32.ofNat 40 else nI (ys.take n).length) = nI (ys.take n).length from if_neg (nI_nlt (a := 40) (by omega) (by decide))]
  refine x_istore_n d_Signs_findEnds_9 rfl rfl ?_
  refine x_iload_n d_Signs_findEnds_10 rfl rfl ?_
  refine x_iconst (v := 1) d_Signs_findEnds_11 (by decide) ?_
  refine x_isub d_Signs_findEnds_12 ?_
  refine x_istore d_Signs_findEnds_13 rfl ?_
  exact Wq.fg (lp (ys.take n).length σ (Nat.le_refl _) (fun i h5 h6 => absurd h6 (by omega)) FrI.rf) ⟨rfl, rfl, rfl, rfl, rfl, trivial⟩
set_option maxRecDepth 10000 in
set_option maxHeartbeats 1000000 in
theorem c_Signs_isMarked {G : Ctx} {d : Nat} {Γ : List Sh} {σ : Mem} {Q : Option Value → List Sh → Mem → Prop} {g : Nat} {pt : Nat → Int32} {cs : Nat → Bool} {i j : Nat} (hG : isSg Γ σ g pt cs) (hi : i < 40) (hj : j < 40) (hQ : Q (some (.int (bI (bitL (σ.2.2 (g + 5) j) i)))) Γ σ) : Ct G M_Signs_isMarked d 0 0 [rf G g, .int (nI i), .int (nI j)] Γ σ Q := by
  obtain ⟨⟨s1, s2, s3, s4, s5, s6⟩, ⟨r1, r2, r3, r4, r5⟩, sp, sc⟩ := id hG

  refine Ct.of (lv := [some (rf G g), some (.int (nI i)), some (.int (nI j))]) (ll := []) rfl rfl (EN.cat (n := 0) ⟨rfl, rfl, rfl, trivial⟩ (Nat.le_of_ble_eq_true rfl)) ?_
  refine x_iload_n d_Signs_isMarked_0 rfl rfl ?_
  refine x_if_lt (tgt := 39) d_Signs_isMarked_1 (by decide) (fun c1 => ?_) (fun c1 => ?_)
  · exact absurd c1 (nI_nneg _ (by omega))
  · refine x_iload_n d_Signs_isMarked_4 rfl rfl ?_
    refine x_bipush (v := 40) d_Signs_isMarked_5 (by decide) ?_
    refine x_icmp_ge (tgt := 39) d_Signs_isMarked_7 (by decide) (fun c7 => ?_) (fun c7 => ?_)
    · exact absurd c7 (nI_ge (b := 40) hi (by decide))
    · refine x_iload_n d_Signs_isMarked_10 rfl rfl ?_
      refine x_if_lt (tgt := 39) d_Signs_isMarked_11 (by decide) (fun c11 => ?_) (fun c11 => ?_)
      · exact absurd c11 (nI_nneg _ (by omega))
      · refine x_iload_n d_Signs_isMarked_14 rfl rfl ?_
        refine x_bipush (v := 40) d_Signs_isMarked_15 (by decide) ?_
        refine x_icmp_ge (tgt := 39) d_Signs_isMarked_17 (by decide) (fun c17 => ?_) (fun c17 => ?_)
        · exact absurd c17 (nI_ge (b := 40) hj (by decide))
        · first | refine x_aload_n d_Signs_isMarked_20 rfl rfl ?_ | refine x_aloadN_n d_Signs_isMarked_20 rfl rfl ?_ | refine x_aloadE_n d_Signs_isMarked_20 rfl rfl ?_ | refine x_aloadO_n d_Signs_isMarked_20 rfl rfl ?_
          refine x_getR d_Signs_isMarked_21 f_Signs_25 rfl (by assumption) (by assumption) ?_
          refine x_iload_n d_Signs_isMarked_24 rfl rfl ?_
          refine x_lald d_Signs_isMarked_25 (by assumption) (vp_in_nI hj (by decide)) ?_
          refine x_iload_n d_Signs_isMarked_26 rfl rfl ?_
          refine x_lushr d_Signs_isMarked_27 ?_
          refine x_lconst (v := 1) d_Signs_isMarked_28 (by decide) ?_
          refine x_land d_Signs_isMarked_29 ?_
          refine x_lconst (v := 0) d_Signs_isMarked_30 (by decide) ?_
          refine x_lcmp d_Signs_isMarked_31 ?_
          rw [nI_clamp (by omega)] 
          refine x_if_eq (tgt := 39) d_Signs_isMarked_32 (by decide) (fun c32 => ?_) (fun c32 => ?_)
          · refine x_iconst (v := 0) d_Signs_isMarked_39 (by decide) ?_
            exact x_ireturn d_Signs_isMarked_40 rfl (by decide) (by first | (rw [(mark_bit (by omega)).mp c32] at hQ; exact hQ) | (have := mt (mark_bit (by omega)).mpr c32; rw [Bool.not_eq_false] at this; rw [this] at hQ; exact hQ))
          · refine x_iconst (v := 1) d_Signs_isMarked_35 (by decide) ?_
            refine x_goto (tgt := 40) d_Signs_isMarked_36 (by decide) ?_
            exact x_ireturn d_Signs_isMarked_40 rfl (by decide) (by first | (rw [(mark_bit (by omega)).mp c32] at hQ; exact hQ) | (have := mt (mark_bit (by omega)).mpr c32; rw [Bool.not_eq_false] at this; rw [this] at hQ; exact hQ))
set_option maxRecDepth 10000 in
set_option maxHeartbeats 1000000 in
theorem c_Signs_embeddedInParts {G : Ctx} {d : Nat} {Γ : List Sh} {σ : Mem} {Q : Option Value → List Sh → Mem → Prop} {g : Nat} {pt : Nat → Int32} {cs : Nat → Bool} {j m : Nat} {ws : List Int32} (hG : isSg Γ σ g pt cs) (hP : PB (sgP pt)) (hl : (ws.take m).length ≤ 40) (hf : full (nP (sgP pt)) 1 (ws.take m) = true) (hj : j < (ws.take m).length) (hE : ∀ i, i < (ws.take m).length → σ.1 (g + 4) i = nI (behind (sgP pt) (ws.take m) i)) (hQ : ∀ v, (∀ i, bitL v i = (List.range (nP (sgP pt) ((ws.take m).getD j (-1)))).any (fun k => bitL (σ.2.2 (g + 5) (ends (sgP pt) (ws.take m) (j + 1) k)) i)) → Q (some (.long v)) Γ σ) : Ct G M_Signs_embeddedInParts (d + 1) 0 0 [rf G g, .int ((ws.take m).getD j (-1)), .int (nI j)] Γ σ Q := by
  obtain ⟨⟨s1, s2, s3, s4, s5, s6⟩, ⟨r1, r2, r3, r4, r5⟩, sp, sc⟩ := id hG
  have hpp := hP.le ((ws.take m).getD j (-1))
  have hz : (ws.take m).length ≤ 10000 := by omega
  have lp : ∀ (k : Nat) (t : Nat) (v : Int64), k + t = nP (sgP pt) ((ws.take m).getD j (-1)) → (∀ i, bitL v i = (List.range t).any (fun k => bitL (σ.2.2 (g + 5) (ends (sgP pt) (ws.take m) (j + 1) k)) i)) → Wq G M_Signs_embeddedInParts (Em G (d + 1) 0 0 Q) 0 0 14 [some (rf G g), some (.int ((ws.take m).getD j (-1))), some (.int (nI j)), none, none, some (.int (nI (ends (sgP pt) (ws.take m) (j + 1) t))), some (.int (nI k))] [(3, v)] [] Γ σ := by
    intro k
    induction k with
    | zero =>
      intro t v h1 h2
      refine x_iload d_Signs_embeddedInParts_14 rfl ?_
      refine x_if_le (tgt := 51) d_Signs_embeddedInParts_16 (by decide) (fun c16 => ?_) (fun c16 => ?_)
      · refine x_lload_n d_Signs_embeddedInParts_51 rfl (by first | exact .head _ | exact .tail _ (.head _) | simp) ?_
        exact x_lreturn d_Signs_embeddedInParts_52 rfl (hQ v (fun i => by rw [h2 i]; congr 2; omega))
      · exact absurd ((nI_le0 (by omega)).mpr rfl) c16
    | succ k ih =>
      intro t v h1 h2
      refine x_iload d_Signs_embeddedInParts_14 rfl ?_
      refine x_if_le (tgt := 51) d_Signs_embeddedInParts_16 (by decide) (fun c16 => ?_) (fun c16 => ?_)
      · exact absurd ((nI_le0 (by omega)).mp c16) (by omega)
      · have hlt := ends_lt hP hz (i := j) (k := t) hj hf (by omega)
        refine x_iload d_Signs_embeddedInParts_19 rfl ?_
        refine x_bipush (v := 40) d_Signs_embeddedInParts_21 (by decide) ?_
        refine x_icmp_ge (tgt := 51) d_Signs_embeddedInParts_23 (by decide) (fun c23 => ?_) (fun c23 => ?_)
        · exact absurd c23 (nI_ge (b := 40) (by omega) (by decide))
        · refine x_lload_n d_Signs_embeddedInParts_26 rfl (by first | exact .head _ | exact .tail _ (.head _) | simp) ?_
          first | refine x_aload_n d_Signs_embeddedInParts_27 rfl rfl ?_ | refine x_aloadN_n d_Signs_embeddedInParts_27 rfl rfl ?_ | refine x_aloadE_n d_Signs_embeddedInParts_27 rfl rfl ?_ | refine x_aloadO_n d_Signs_embeddedInParts_27 rfl rfl ?_
          refine x_getR d_Signs_embeddedInParts_28 f_Signs_25 rfl (by assumption) (by assumption) ?_
          refine x_iload d_Signs_embeddedInParts_31 rfl ?_
          refine x_lald d_Signs_embeddedInParts_33 (by assumption) (vp_in_nI (by omega) (by decide)) ?_
          refine x_lor d_Signs_embeddedInParts_34 ?_
          refine x_lstore_n d_Signs_embeddedInParts_35 rfl rfl ?_
          first | refine x_aload_n d_Signs_embeddedInParts_36 rfl rfl ?_ | refine x_aloadN_n d_Signs_embeddedInParts_36 rfl rfl ?_ | refine x_aloadE_n d_Signs_embeddedInParts_36 rfl rfl ?_ | refine x_aloadO_n d_Signs_embeddedInParts_36 rfl rfl ?_
          refine x_getR d_Signs_embeddedInParts_37 f_Signs_22 rfl (by assumption) (by assumption) ?_
          refine x_iload d_Signs_embeddedInParts_40 rfl ?_
          refine x_iald d_Signs_embeddedInParts_42 (by assumption) (vp_in_nI (by omega) (by decide)) ?_
          rw [nI_clamp (by omega), hE _ hlt.1]
          refine x_istore d_Signs_embeddedInParts_43 rfl ?_
          refine x_iinc (v := nI k) d_Signs_embeddedInParts_45 rfl (nI_d1 k) rfl ?_
          refine x_goto (tgt := 14) d_Signs_embeddedInParts_48 (by decide) ?_
          exact Wq.fgl (ih (t + 1) (v ||| σ.2.2 (g + 5) (ends (sgP pt) (ws.take m) (j + 1) t)) (by omega) (fun i => by rw [bitL_or, h2 i, List.range_succ, List.any_append, List.any_cons, List.any_nil, Bool.or_false])) ⟨rfl, rfl, rfl, rfl, rfl, trivial⟩ (fun q hq => by rw [List.mem_singleton.mp hq]; exact .head _)
  refine Ct.of (lv := [some (rf G g), some (.int ((ws.take m).getD j (-1))), some (.int (nI j)), none, none, none, none]) (ll := []) rfl rfl (EN.cat (n := 4) ⟨rfl, rfl, rfl, trivial⟩ (Nat.le_of_ble_eq_true rfl)) ?_
  refine x_lconst (v := 0) d_Signs_embeddedInParts_0 (by decide) ?_
  refine x_lstore_n d_Signs_embeddedInParts_1 rfl rfl ?_
  refine x_iload_n d_Signs_embeddedInParts_2 rfl rfl ?_
  refine x_iconst (v := 1) d_Signs_embeddedInParts_3 (by decide) ?_
  refine x_iadd d_Signs_embeddedInParts_4 ?_
  rw [nI_1]
  refine x_istore d_Signs_embeddedInParts_5 rfl ?_
  first | refine x_aload_n d_Signs_embeddedInParts_7 rfl rfl ?_ | refine x_aloadN_n d_Signs_embeddedInParts_7 rfl rfl ?_ | refine x_aloadE_n d_Signs_embeddedInParts_7 rfl rfl ?_ | refine x_aloadO_n d_Signs_embeddedInParts_7 rfl rfl ?_
  refine x_iload_n d_Signs_embeddedInParts_8 rfl rfl ?_
  refine x_callV1 d_Signs_embeddedInParts_9 k_Signs_partsOf l_Signs_46 v_Signs_partsOf rfl s_Signs_partsOf (by assumption) RoomE.m (Nat.le_of_ble_eq_true rfl) (c_Signs_partsOf hG ?_)
  rw [(hP.le _).2]
  refine x_istore d_Signs_embeddedInParts_12 rfl ?_
  exact Wq.fgl (lp (nP (sgP pt) ((ws.take m).getD j (-1))) 0 0 (by omega) (fun i => by rw [bitL_0]; rfl)) ⟨rfl, rfl, rfl, rfl, rfl, trivial⟩ (fun q hq => by rw [List.mem_singleton.mp hq]; exact .head _)
/-- the coupling of the inner sign at i with the outer one at j, under the marks M i j -/
def cplB (P : Int32 → Int32) (zi zo : List Int32) (M : Nat → Nat → Bool) (i j : Nat) : Bool :=
  if isV (zi.getD i (-1)) || isV (zo.getD j (-1)) then isV (zi.getD i (-1)) && isV (zo.getD j (-1))
  else decide (zi.getD i (-1) = zo.getD j (-1)) && (List.range (nP P (zi.getD i (-1)))).all (fun k => M (ends P zi (i + 1) k) (ends P zo (j + 1) k))
/-- the marks that the terms have -/
def MEq (P : Int32 → Int32) (zi zo : List Int32) (M : Nat → Nat → Bool) (j : Nat) : Prop := ∀ i, i < 40 → M i j = ((List.range (nP P (zo.getD j (-1)))).any (fun k => M i (ends P zo (j + 1) k)) || (decide (i < zi.length) && cplB P zi zo M i j))
def mkM (σ : Mem) (e : Nat) (i j : Nat) : Bool := bitL (σ.2.2 e j) i
set_option maxRecDepth 10000 in
set_option maxHeartbeats 1000000 in
theorem c_Signs_couples {G : Ctx} {d : Nat} {Γ : List Sh} {σ : Mem} {Q : Option Value → List Sh → Mem → Prop} {g : Nat} {pt : Nat → Int32} {cs : Nat → Bool} {i j n m : Nat} {ys ws : List Int32} (hG : isSg Γ σ g pt cs) (hP : PB (sgP pt)) (hli : (ys.take n).length ≤ 40) (hlo : (ws.take m).length ≤ 40) (hfi : full (nP (sgP pt)) 1 (ys.take n) = true) (hfo : full (nP (sgP pt)) 1 (ws.take m) = true) (hi : i < (ys.take n).length) (hj : j < (ws.take m).length) (hEi : ∀ i, i < (ys.take n).length → σ.1 (g + 3) i = nI (behind (sgP pt) (ys.take n) i)) (hEo : ∀ i, i < (ws.take m).length → σ.1 (g + 4) i = nI (behind (sgP pt) (ws.take m) i)) (hQ : Q (some (.int (bI (cplB (sgP pt) (ys.take n) (ws.take m) (mkM σ (g + 5)) i j)))) Γ σ) : Ct G M_Signs_couples (d + 1) 0 0 [rf G g, .int ((ys.take n).getD i (-1)), .int (nI i), .int ((ws.take m).getD j (-1)), .int (nI j)] Γ σ Q := by
  obtain ⟨⟨s1, s2, s3, s4, s5, s6⟩, ⟨r1, r2, r3, r4, r5⟩, sp, sc⟩ := id hG
  have hpp := hP.le ((ys.take n).getD i (-1))
  have hzi : (ys.take n).length ≤ 10000 := by omega
  have hzo : (ws.take m).length ≤ 10000 := by omega
  have lp : ¬ (isV ((ys.take n).getD i (-1)) || isV ((ws.take m).getD j (-1))) = true → (ys.take n).getD i (-1) = (ws.take m).getD j (-1) → ∀ (k : Nat) (t : Nat), k + t = nP (sgP pt) ((ys.take n).getD i (-1)) → (∀ k, k < t → mkM σ (g + 5) (ends (sgP pt) (ys.take n) (i + 1) k) (ends (sgP pt) (ws.take m) (j + 1) k) = true) → Wq G M_Signs_couples (Em G (d + 1) 0 0 Q) 0 0 59 [some (rf G g), some (.int ((ys.take n).getD i (-1))), some (.int (nI i)), some (.int ((ws.take m).getD j (-1))), some (.int (nI j)), some (.int (nI (ends (sgP pt) (ys.take n) (i + 1) t))), some (.int (nI (ends (sgP pt) (ws.take m) (j + 1) t))), some (.int (nI k))] [] [] Γ σ := by
    intro hnv heq k
    induction k with
    | zero =>
      intro t h1 h2
      refine x_iload d_Signs_couples_59 rfl ?_
      refine x_if_le (tgt := 101) d_Signs_couples_61 (by decide) (fun c61 => ?_) (fun c61 => ?_)
      · refine x_iconst (v := 1) d_Signs_couples_101 (by decide) ?_
        exact x_ireturn d_Signs_couples_102 rfl (by decide) (by rw [cplB, if_neg hnv, decide_eq_true heq, Bool.true_and, show (List.range (nP (sgP pt) ((ys.take n).getD i (-1)))).all _ = true from List.all_eq_true.mpr (fun k hk => h2 k (by have := List.mem_range.mp hk; omega))] at hQ; exact hQ)
      · exact absurd ((nI_le0 (by omega)).mpr rfl) c61
    | succ k ih =>
      intro t h1 h2
      refine x_iload d_Signs_couples_59 rfl ?_
      refine x_if_le (tgt := 101) d_Signs_couples_61 (by decide) (fun c61 => ?_) (fun c61 => ?_)
      · exact absurd ((nI_le0 (by omega)).mp c61) (by omega)
      · have hli := ends_lt hP hzi (i := i) (k := t) hi hfi (by omega)
        have hlo := ends_lt hP hzo (i := j) (k := t) hj hfo (by rw [← heq]; omega)
        first | refine x_aload_n d_Signs_couples_64 rfl rfl ?_ | refine x_aloadN_n d_Signs_couples_64 rfl rfl ?_ | refine x_aloadE_n d_Signs_couples_64 rfl rfl ?_ | refine x_aloadO_n d_Signs_couples_64 rfl rfl ?_
        refine x_iload d_Signs_couples_65 rfl ?_
        refine x_iload d_Signs_couples_67 rfl ?_
        refine x_callV2 d_Signs_couples_69 k_Signs_isMarked l_Signs_75 v_Signs_isMarked rfl s_Signs_isMarked (by assumption) RoomE.m (Nat.le_of_ble_eq_true rfl) (c_Signs_isMarked hG (by omega) (by omega) ?_)
        refine x_if_ne (tgt := 77) d_Signs_couples_72 (by decide) (fun c72 => ?_) (fun c72 => ?_)
        · first | refine x_aload_n d_Signs_couples_77 rfl rfl ?_ | refine x_aloadN_n d_Signs_couples_77 rfl rfl ?_ | refine x_aloadE_n d_Signs_couples_77 rfl rfl ?_ | refine x_aloadO_n d_Signs_couples_77 rfl rfl ?_
          refine x_getR d_Signs_couples_78 f_Signs_19 rfl (by assumption) (by assumption) ?_
          refine x_iload d_Signs_couples_81 rfl ?_
          refine x_iald d_Signs_couples_83 (by assumption) (vp_in_nI (by omega) (by decide)) ?_
          rw [nI_clamp (by omega), hEi _ hli.1]
          refine x_istore d_Signs_couples_84 rfl ?_
          first | refine x_aload_n d_Signs_couples_86 rfl rfl ?_ | refine x_aloadN_n d_Signs_couples_86 rfl rfl ?_ | refine x_aloadE_n d_Signs_couples_86 rfl rfl ?_ | refine x_aloadO_n d_Signs_couples_86 rfl rfl ?_
          refine x_getR d_Signs_couples_87 f_Signs_22 rfl (by assumption) (by assumption) ?_
          refine x_iload d_Signs_couples_90 rfl ?_
          refine x_iald d_Signs_couples_92 (by assumption) (vp_in_nI (by omega) (by decide)) ?_
          rw [nI_clamp (by omega), hEo _ hlo.1]
          refine x_istore d_Signs_couples_93 rfl ?_
          refine x_iinc (v := nI k) d_Signs_couples_95 rfl (nI_d1 k) rfl ?_
          refine x_goto (tgt := 59) d_Signs_couples_98 (by decide) ?_
          exact Wq.fg (ih (t + 1) (by omega) (fun k5 h5 => by
            by_cases e5 : k5 = t
            · subst e5; exact bI_n0 c72
            · exact h2 k5 (by omega))) ⟨rfl, rfl, rfl, rfl, rfl, rfl, rfl, rfl, trivial⟩
        · refine x_iconst (v := 0) d_Signs_couples_75 (by decide) ?_
          exact x_ireturn d_Signs_couples_76 rfl (by decide) (by rw [cplB, if_neg hnv, decide_eq_true heq, Bool.true_and, show (List.range (nP (sgP pt) ((ys.take n).getD i (-1)))).all _ = false from List.all_eq_false.mpr ⟨t, List.mem_range.mpr (by omega), by show ¬ mkM σ (g + 5) _ _ = true; rw [mkM, bI_0 c72]; decide⟩] at hQ; exact hQ)
  refine Ct.of (lv := [some (rf G g), some (.int ((ys.take n).getD i (-1))), some (.int (nI i)), some (.int ((ws.take m).getD j (-1))), some (.int (nI j)), none, none, none]) (ll := []) rfl rfl (EN.cat (n := 3) ⟨rfl, rfl, rfl, rfl, rfl, trivial⟩ (Nat.le_of_ble_eq_true rfl)) ?_
  refine x_iload_n d_Signs_couples_0 rfl rfl ?_
  refine x_callSN1 d_Signs_couples_1 k_SD_isVariable ln_Signs_79 z_SD_isVariable RoomE.m (Nat.le_of_ble_eq_true rfl) (c_SD_isVariable ?_)
  refine x_if_ne (tgt := 14) d_Signs_couples_4 (by decide) (fun c4 => ?_) (fun c4 => ?_)
  · refine x_iload_n d_Signs_couples_14 rfl rfl ?_
    refine x_callSN1 d_Signs_couples_15 k_SD_isVariable ln_Signs_79 z_SD_isVariable RoomE.m (Nat.le_of_ble_eq_true rfl) (c_SD_isVariable ?_)
    refine x_if_eq (tgt := 32) d_Signs_couples_18 (by decide) (fun c18 => ?_) (fun c18 => ?_)
    · refine x_iconst (v := 0) d_Signs_couples_32 (by decide) ?_
      exact x_ireturn d_Signs_couples_33 rfl (by decide) (by
        rw [cplB] at hQ
        first
        | (rw [bI_n0 c4, bI_0 c25] at hQ; exact hQ)
        | (rw [bI_n0 c4, bI_n0 c25] at hQ; exact hQ)
        | (rw [bI_0 c4, bI_n0 c11] at hQ; exact hQ)
        | (exact absurd (bI_0 c18) (by rw [bI_n0 c4]; decide))
        | (exact absurd (bI_n0 c18) (by rw [bI_0 c4]; decide)))
    · refine x_iload_n d_Signs_couples_21 rfl rfl ?_
      refine x_callSN1 d_Signs_couples_22 k_SD_isVariable ln_Signs_79 z_SD_isVariable RoomE.m (Nat.le_of_ble_eq_true rfl) (c_SD_isVariable ?_)
      refine x_if_eq (tgt := 32) d_Signs_couples_25 (by decide) (fun c25 => ?_) (fun c25 => ?_)
      · refine x_iconst (v := 0) d_Signs_couples_32 (by decide) ?_
        exact x_ireturn d_Signs_couples_33 rfl (by decide) (by
          rw [cplB] at hQ
          first
          | (rw [bI_n0 c4, bI_0 c25] at hQ; exact hQ)
          | (rw [bI_n0 c4, bI_n0 c25] at hQ; exact hQ)
          | (rw [bI_0 c4, bI_n0 c11] at hQ; exact hQ)
          | (exact absurd (bI_0 c18) (by rw [bI_n0 c4]; decide))
          | (exact absurd (bI_n0 c18) (by rw [bI_0 c4]; decide)))
      · refine x_iconst (v := 1) d_Signs_couples_28 (by decide) ?_
        refine x_goto (tgt := 33) d_Signs_couples_29 (by decide) ?_
        exact x_ireturn d_Signs_couples_33 rfl (by decide) (by
          rw [cplB] at hQ
          first
          | (rw [bI_n0 c4, bI_0 c25] at hQ; exact hQ)
          | (rw [bI_n0 c4, bI_n0 c25] at hQ; exact hQ)
          | (rw [bI_0 c4, bI_n0 c11] at hQ; exact hQ)
          | (exact absurd (bI_0 c18) (by rw [bI_n0 c4]; decide))
          | (exact absurd (bI_n0 c18) (by rw [bI_0 c4]; decide)))
  · refine x_iload_n d_Signs_couples_7 rfl rfl ?_
    refine x_callSN1 d_Signs_couples_8 k_SD_isVariable ln_Signs_79 z_SD_isVariable RoomE.m (Nat.le_of_ble_eq_true rfl) (c_SD_isVariable ?_)
    refine x_if_eq (tgt := 34) d_Signs_couples_11 (by decide) (fun c11 => ?_) (fun c11 => ?_)
    · refine x_iload_n d_Signs_couples_34 rfl rfl ?_
      refine x_iload_n d_Signs_couples_35 rfl rfl ?_
      refine x_icmp_eq (tgt := 41) d_Signs_couples_36 (by decide) (fun c36 => ?_) (fun c36 => ?_)
      · refine x_iload_n d_Signs_couples_41 rfl rfl ?_
        refine x_iconst (v := 1) d_Signs_couples_42 (by decide) ?_
        refine x_iadd d_Signs_couples_43 ?_
        rw [nI_1]
        refine x_istore d_Signs_couples_44 rfl ?_
        refine x_iload d_Signs_couples_46 rfl ?_
        refine x_iconst (v := 1) d_Signs_couples_48 (by decide) ?_
        refine x_iadd d_Signs_couples_49 ?_
        rw [nI_1]
        refine x_istore d_Signs_couples_50 rfl ?_
        first | refine x_aload_n d_Signs_couples_52 rfl rfl ?_ | refine x_aloadN_n d_Signs_couples_52 rfl rfl ?_ | refine x_aloadE_n d_Signs_couples_52 rfl rfl ?_ | refine x_aloadO_n d_Signs_couples_52 rfl rfl ?_
        refine x_iload_n d_Signs_couples_53 rfl rfl ?_
        refine x_callV1 d_Signs_couples_54 k_Signs_partsOf l_Signs_46 v_Signs_partsOf rfl s_Signs_partsOf (by assumption) RoomE.m (Nat.le_of_ble_eq_true rfl) (c_Signs_partsOf hG ?_)
        rw [(hP.le _).2]
        refine x_istore d_Signs_couples_57 rfl ?_
        have lp2 := lp (by rw [bI_0 c4, bI_0 c11]; decide) c36
        exact Wq.fg (lp2 (nP (sgP pt) ((ys.take n).getD i (-1))) 0 (by omega) (fun k hk => absurd hk (Nat.not_lt_zero _))) ⟨rfl, rfl, rfl, rfl, rfl, rfl, rfl, rfl, trivial⟩
      · refine x_iconst (v := 0) d_Signs_couples_39 (by decide) ?_
        exact x_ireturn d_Signs_couples_40 rfl (by decide) (by rw [cplB, if_neg (by rw [bI_0 c4, bI_0 c11]; decide), decide_eq_false c36, Bool.false_and] at hQ; exact hQ)
    · refine x_iload_n d_Signs_couples_14 rfl rfl ?_
      refine x_callSN1 d_Signs_couples_15 k_SD_isVariable ln_Signs_79 z_SD_isVariable RoomE.m (Nat.le_of_ble_eq_true rfl) (c_SD_isVariable ?_)
      refine x_if_eq (tgt := 32) d_Signs_couples_18 (by decide) (fun c18 => ?_) (fun c18 => ?_)
      · refine x_iconst (v := 0) d_Signs_couples_32 (by decide) ?_
        exact x_ireturn d_Signs_couples_33 rfl (by decide) (by
          rw [cplB] at hQ
          first
          | (rw [bI_n0 c4, bI_0 c25] at hQ; exact hQ)
          | (rw [bI_n0 c4, bI_n0 c25] at hQ; exact hQ)
          | (rw [bI_0 c4, bI_n0 c11] at hQ; exact hQ)
          | (exact absurd (bI_0 c18) (by rw [bI_n0 c4]; decide))
          | (exact absurd (bI_n0 c18) (by rw [bI_0 c4]; decide)))
      · refine x_iload_n d_Signs_couples_21 rfl rfl ?_
        refine x_callSN1 d_Signs_couples_22 k_SD_isVariable ln_Signs_79 z_SD_isVariable RoomE.m (Nat.le_of_ble_eq_true rfl) (c_SD_isVariable ?_)
        refine x_if_eq (tgt := 32) d_Signs_couples_25 (by decide) (fun c25 => ?_) (fun c25 => ?_)
        · refine x_iconst (v := 0) d_Signs_couples_32 (by decide) ?_
          exact x_ireturn d_Signs_couples_33 rfl (by decide) (by
            rw [cplB] at hQ
            first
            | (rw [bI_n0 c4, bI_0 c25] at hQ; exact hQ)
            | (rw [bI_n0 c4, bI_n0 c25] at hQ; exact hQ)
            | (rw [bI_0 c4, bI_n0 c11] at hQ; exact hQ)
            | (exact absurd (bI_0 c18) (by rw [bI_n0 c4]; decide))
            | (exact absurd (bI_n0 c18) (by rw [bI_0 c4]; decide)))
        · refine x_iconst (v := 1) d_Signs_couples_28 (by decide) ?_
          refine x_goto (tgt := 33) d_Signs_couples_29 (by decide) ?_
          exact x_ireturn d_Signs_couples_33 rfl (by decide) (by
            rw [cplB] at hQ
            first
            | (rw [bI_n0 c4, bI_0 c25] at hQ; exact hQ)
            | (rw [bI_n0 c4, bI_n0 c25] at hQ; exact hQ)
            | (rw [bI_0 c4, bI_n0 c11] at hQ; exact hQ)
            | (exact absurd (bI_0 c18) (by rw [bI_n0 c4]; decide))
            | (exact absurd (bI_n0 c18) (by rw [bI_0 c4]; decide)))
