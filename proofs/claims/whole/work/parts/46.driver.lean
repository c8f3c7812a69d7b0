/-! SuperDriver$Driver at cell 373 -/
def isDrv (Γ : List Sh) (σ : Mem) : Prop := Γ[373]? = some (0, 7) ∧ (σ.2.1 373 0 = some 27 ∧ σ.2.1 373 1 = some 33 ∧ σ.2.1 373 2 = some 131 ∧ σ.2.1 373 3 = some 22 ∧ σ.2.1 373 4 = some 380 ∧ σ.2.1 373 5 = some 374 ∧ σ.2.1 373 6 = some 376 ∧ σ.2.1 373 7 = some 378) ∧ (∃ y, isRow Γ σ 374 40 y) ∧ (∃ y, isRow Γ σ 376 120 y) ∧ ∃ y, isRow Γ σ 378 3 y
def inD (a : Nat) : Prop := 373 ≤ a ∧ a ≤ 379
theorem isDrv.P {Γ : List Sh} {σ σ' : Mem} {X : Nat → Prop} (h : isDrv Γ σ) (hf : FrP X σ σ') (h0 : ∀ a, inD a → ¬ X a) : isDrv Γ σ' := by
  obtain ⟨a, b, ⟨y1, c⟩, ⟨y2, d⟩, ⟨y3, e⟩⟩ := h
  have h1 := hf 373 (h0 _ ⟨by omega, by omega⟩)
  exact ⟨a, by rw [h1.2.1]; exact b, ⟨y1, c.P hf (h0 _ ⟨by omega, by omega⟩) (h0 _ ⟨by omega, by omega⟩)⟩, ⟨y2, d.P hf (h0 _ ⟨by omega, by omega⟩) (h0 _ ⟨by omega, by omega⟩)⟩, ⟨y3, e.P hf (h0 _ ⟨by omega, by omega⟩) (h0 _ ⟨by omega, by omega⟩)⟩⟩
theorem isDrv.T {Γ : List Sh} {σ σ' : Mem} (h : isDrv Γ σ) (hf : FrP inT σ σ') : isDrv Γ σ' := h.P hf (fun a ha hb => by unfold inD at ha; unfold inT at hb; omega)
set_option maxRecDepth 10000 in
set_option maxHeartbeats 1000000 in
theorem c_Driver_begin {G : Ctx} {d : Nat} {Γ : List Sh} {σ : Mem} {Q : Option Value → List Sh → Mem → Prop} {T : TS} {r n : Nat} {ys : List Int32}  (hD : isDrv Γ σ) (hT : isTree Γ σ T) (hR : isRow Γ σ r n ys) (hr : r + 1 < 131) (hQ : ∀ σ', isTree Γ σ' (tAdd (tClr T) none (ys.take n) (decide (n < ys.length))).1 → FrP inT σ σ' → Q none Γ σ') : Ct G M_Driver_begin (d + 4) 0 0 [rf G 373, rf G r] Γ σ Q := by
  obtain ⟨v0, ⟨v1, v2, v3, v4, v5, v6, v7, v8⟩, -⟩ := id hD
  obtain ⟨t1, -⟩ := id hT
  refine Ct.of (lv := [some (rf G 373), some (rf G r)]) (ll := []) rfl rfl (EN.cat (n := 0) ⟨rfl, rfl, trivial⟩ (Nat.le_of_ble_eq_true rfl)) ?_
  first | refine x_aload_n d_Driver_begin_0 rfl rfl ?_ | refine x_aloadN_n d_Driver_begin_0 rfl rfl ?_ | refine x_aloadE_n d_Driver_begin_0 rfl rfl ?_ | refine x_aloadO_n d_Driver_begin_0 rfl rfl ?_
  refine x_getR d_Driver_begin_1 f_Driver_34 rfl (by assumption) (by assumption) ?_
  refine x_callV0 d_Driver_begin_4 k_Tree_clear l_Driver_51 v_Tree_clear rfl s_Tree_clear (by exact hT.1) RoomE.m (Nat.le_of_ble_eq_true rfl) (c_Tree_clear hT (fun τ1 T1 f1 => ?_))
  have R1 := hR.Fr f1 (by simp; omega) (by simp; omega)
  first | refine x_aload_n d_Driver_begin_7 rfl rfl ?_ | refine x_aloadN_n d_Driver_begin_7 rfl rfl ?_ | refine x_aloadE_n d_Driver_begin_7 rfl rfl ?_ | refine x_aloadO_n d_Driver_begin_7 rfl rfl ?_
  refine x_getR d_Driver_begin_8 f_Driver_34 rfl (by assumption) (by rw [(f1 373 (by simp)).2.1]; exact v3) ?_
  refine x_null d_Driver_begin_11 ?_
  first | refine x_aload_n d_Driver_begin_12 rfl rfl ?_ | refine x_aloadN_n d_Driver_begin_12 rfl rfl ?_ | refine x_aloadE_n d_Driver_begin_12 rfl rfl ?_ | refine x_aloadO_n d_Driver_begin_12 rfl rfl ?_
  refine x_iconst (v := 0) d_Driver_begin_13 (by decide) ?_
  first | refine x_aload_n d_Driver_begin_14 rfl rfl ?_ | refine x_aloadN_n d_Driver_begin_14 rfl rfl ?_ | refine x_aloadE_n d_Driver_begin_14 rfl rfl ?_ | refine x_aloadO_n d_Driver_begin_14 rfl rfl ?_
  refine x_callV0 d_Driver_begin_15 k_Row_length l_Driver_56 v_Row_length rfl s_Row_length (by exact hR.1) RoomE.m (Nat.le_of_ble_eq_true rfl) (c_Row_length R1 ?_)
  refine x_callV4 d_Driver_begin_18 k_Tree_add l_Driver_60 v_Tree_add rfl s_Tree_add (by exact hT.1) RoomE.m (Nat.le_of_ble_eq_true rfl) (c_Tree_add (f := 0) (ab := none) T1 R1 (fun h => by unfold inN; omega) (by omega) lk48.n (Nat.zero_le _) (Nat.le_refl _) (fun τ2 T2 f2 => ?_))
  first | refine x_pop d_Driver_begin_21 ov_cat ?_ | refine x_pop d_Driver_begin_21 rfl ?_
  exact x_return d_Driver_begin_22 rfl (by
    have e9 : ((ys.take n).take (ys.take n).length).drop 0 = (ys.take n) := by rw [List.take_of_length_le (Nat.le_refl _)]; rfl
    rw [e9] at T2
    exact hQ τ2 T2 ((f1.T (by simp; exact i131)).tr f2))
def kdR (st : Bool) : Int32 := if st then 3 else 4
def nRiv (T : TS) (st : Bool) : Nat → Option Nat → Option Nat
  | 0, _ => none
  | _ + 1, none => none
  | f + 1, some u => if (tD T u).1 7 = kdR st then some u else if st && !decide ((tD T u).1 7 = 7) then none else nRiv T st f ((tD T u).2.1 3)
theorem nRiv_none {T : TS} {st : Bool} : ∀ f, nRiv T st f none = none
  | 0 => rfl
  | _ + 1 => rfl
def nxR (T : TS) (st : Bool) (n : Nat) : Option Nat := nRiv T st n ((tD T n).2.1 3)
theorem nRiv_lt {T : TS} {st : Bool} (hA : AW T) : ∀ {f : Nat} {o : Option Nat} {r : Nat}, (∀ u, o = some u → u < f ∧ u < tN T) → nRiv T st f o = some r → r < f ∧ r < tN T
  | 0, o, r, h, e => by cases e
  | f + 1, none, r, h, e => by cases e
  | f + 1, some u, r, h, e => by
    have hu := h u rfl
    unfold nRiv at e
    split at e
    · cases e; exact hu
    · split at e
      · cases e
      · have := nRiv_lt hA (fun w hw => by have := hA u hu.2 w hw; omega) e
        omega
theorem nxR_lt {T : TS} {st : Bool} {n r : Nat} (hA : AW T) (hn : n < tN T) (e : nxR T st n = some r) : r < n ∧ r < tN T := nRiv_lt hA (fun w hw => by have := hA n hn w hw; omega) e
set_option maxRecDepth 10000 in
set_option maxHeartbeats 1000000 in
theorem c_Driver_nextRival {G : Ctx} {d : Nat} {Γ : List Sh} {σ : Mem} {Q : Option Value → List Sh → Mem → Prop} {T : TS} {n : Nat} {st : Bool}  (hT : isTree Γ σ T) (hA : AW T) (hn2 : n < tN T) (hQ : Q (some (ov G ((nxR T st n).map nc))) Γ σ) : Ct G M_Driver_nextRival d 0 0 [rf G (133 + 5 * n), .int (bI st)] Γ σ Q := by
  obtain ⟨-, -, -, ⟨-, t4b⟩, -⟩ := id hT
  have hn : n < 48 := by omega
  obtain ⟨n0, ⟨i0, ii⟩, ⟨q1, q2, qq⟩, nt, nr⟩ := id (hT.nd hn)
  have lp : ∀ (f : Nat) (o : Option Nat), (∀ u, o = some u → u < f ∧ u < tN T) → nRiv T st f o = nxR T st n → Wq G M_Driver_nextRival (Em G d 0 0 Q) 0 0 5 [some (rf G (133 + 5 * n)), some (.int (bI st)), some (ov G (o.map nc))] [] [] Γ σ := by
    intro f
    induction f with
    | zero =>
      intro o h1 h2
      have ho : o = none := by
        cases o with
        | none => rfl
        | some u => exact absurd (h1 u rfl).1 (Nat.not_lt_zero _)
      subst ho
      first | refine x_aload_n d_Driver_nextRival_5 rfl rfl ?_ | refine x_aloadN_n d_Driver_nextRival_5 rfl rfl ?_ | refine x_aloadE_n d_Driver_nextRival_5 rfl rfl ?_ | refine x_aloadO_n d_Driver_nextRival_5 rfl rfl ?_
      refine x_ifnullN (tgt := 50) d_Driver_nextRival_6 (by decide) ?_
      refine x_null d_Driver_nextRival_50 ?_
      exact x_areturnN d_Driver_nextRival_51 rfl (by rw [nRiv_none] at h2; rw [← h2] at hQ; exact hQ)
    | succ f ih =>
      intro o h1 h2
      cases st with
      | true =>
        first | refine x_aload_n d_Driver_nextRival_5 rfl rfl ?_ | refine x_aloadN_n d_Driver_nextRival_5 rfl rfl ?_ | refine x_aloadE_n d_Driver_nextRival_5 rfl rfl ?_ | refine x_aloadO_n d_Driver_nextRival_5 rfl rfl ?_
        rcases hO6 : o with _ | k6
        · subst hO6
          refine x_ifnullN (tgt := 50) d_Driver_nextRival_6 (by decide) ?_
          refine x_null d_Driver_nextRival_50 ?_
          exact x_areturnN d_Driver_nextRival_51 rfl (by rw [nRiv_none] at h2; rw [← h2] at hQ; exact hQ)
        · subst hO6
          have hu := h1 _ rfl
          have uu := hT.nd (show k6 < 48 by omega)
          have k7 : σ.1 (nc k6) 7 = (tD T k6).1 7 := uu.2.1.2 7 rfl
          refine x_ifnull d_Driver_nextRival_6 ?_
          first | refine x_aload_n d_Driver_nextRival_9 rfl rfl ?_ | refine x_aloadN_n d_Driver_nextRival_9 rfl rfl ?_ | refine x_aloadE_n d_Driver_nextRival_9 rfl rfl ?_ | refine x_aloadO_n d_Driver_nextRival_9 rfl rfl ?_
          refine x_getI d_Driver_nextRival_10 f_Driver_68 rfl (by exact uu.1) ?_
          refine x_iload_n d_Driver_nextRival_13 rfl rfl ?_
          refine x_if_eq (tgt := 21) d_Driver_nextRival_14 (by decide) (fun c14 => ?_) (fun c14 => ?_)
          · exact absurd c14 (by decide)
          · refine x_iconst (v := 3) d_Driver_nextRival_17 (by decide) ?_
            refine x_goto (tgt := 22) d_Driver_nextRival_18 (by decide) ?_
            refine x_icmp_ne (tgt := 27) d_Driver_nextRival_22 (by decide) (fun c22 => ?_) (fun c22 => ?_)
            · refine x_iload_n d_Driver_nextRival_27 rfl rfl ?_
              refine x_if_eq (tgt := 42) d_Driver_nextRival_28 (by decide) (fun c28 => ?_) (fun c28 => ?_)
              · exact absurd c28 (by decide)
              · first | refine x_aload_n d_Driver_nextRival_31 rfl rfl ?_ | refine x_aloadN_n d_Driver_nextRival_31 rfl rfl ?_ | refine x_aloadE_n d_Driver_nextRival_31 rfl rfl ?_ | refine x_aloadO_n d_Driver_nextRival_31 rfl rfl ?_
                refine x_getI d_Driver_nextRival_32 f_Driver_68 rfl (by exact uu.1) ?_
                refine x_bipush (v := 7) d_Driver_nextRival_35 (by decide) ?_
                refine x_icmp_eq (tgt := 42) d_Driver_nextRival_37 (by decide) (fun c37 => ?_) (fun c37 => ?_)
                · first | refine x_aload_n d_Driver_nextRival_42 rfl rfl ?_ | refine x_aloadN_n d_Driver_nextRival_42 rfl rfl ?_ | refine x_aloadE_n d_Driver_nextRival_42 rfl rfl ?_ | refine x_aloadO_n d_Driver_nextRival_42 rfl rfl ?_
                  refine x_getQ d_Driver_nextRival_43 f_Driver_154 rfl (by exact uu.1) ((uu.2.2.1.2.2 3 rfl).1) ?_
                  first | refine x_astore_n d_Driver_nextRival_46 rfl rfl ?_ | refine x_astoreN_n d_Driver_nextRival_46 rfl rfl ?_ | refine x_astoreE_n d_Driver_nextRival_46 rfl rfl ?_ | refine x_astoreO_n d_Driver_nextRival_46 rfl rfl ?_
                  refine x_goto (tgt := 5) d_Driver_nextRival_47 (by decide) ?_
                  exact ih _ (fun u hv => by have := hA k6 hu.2 u hv; omega) (by rw [nRiv, if_neg (show ¬ (tD T k6).1 7 = kdR true from fun z => c22 (k7.trans z)), if_neg (by rw [decide_eq_true (k7.symm.trans c37)]; decide)] at h2; exact h2)
                · refine x_null d_Driver_nextRival_40 ?_
                  exact x_areturnN d_Driver_nextRival_41 rfl (by rw [nRiv, if_neg (show ¬ (tD T k6).1 7 = kdR true from fun z => c22 (k7.trans z)), if_pos (by rw [decide_eq_false (fun z => c37 (k7.trans z))]; rfl)] at h2; rw [← h2] at hQ; exact hQ)
            · first | refine x_aload_n d_Driver_nextRival_25 rfl rfl ?_ | refine x_aloadN_n d_Driver_nextRival_25 rfl rfl ?_ | refine x_aloadE_n d_Driver_nextRival_25 rfl rfl ?_ | refine x_aloadO_n d_Driver_nextRival_25 rfl rfl ?_
              exact x_areturn d_Driver_nextRival_26 rfl (by rw [nRiv, if_pos (show (tD T k6).1 7 = kdR true from k7.symm.trans c22)] at h2; rw [← h2] at hQ; exact hQ)
      | false =>
        first | refine x_aload_n d_Driver_nextRival_5 rfl rfl ?_ | refine x_aloadN_n d_Driver_nextRival_5 rfl rfl ?_ | refine x_aloadE_n d_Driver_nextRival_5 rfl rfl ?_ | refine x_aloadO_n d_Driver_nextRival_5 rfl rfl ?_
        rcases hO6 : o with _ | k6
        · subst hO6
          refine x_ifnullN (tgt := 50) d_Driver_nextRival_6 (by decide) ?_
          refine x_null d_Driver_nextRival_50 ?_
          exact x_areturnN d_Driver_nextRival_51 rfl (by rw [nRiv_none] at h2; rw [← h2] at hQ; exact hQ)
        · subst hO6
          have hu := h1 _ rfl
          have uu := hT.nd (show k6 < 48 by omega)
          have k7 : σ.1 (nc k6) 7 = (tD T k6).1 7 := uu.2.1.2 7 rfl
          refine x_ifnull d_Driver_nextRival_6 ?_
          first | refine x_aload_n d_Driver_nextRival_9 rfl rfl ?_ | refine x_aloadN_n d_Driver_nextRival_9 rfl rfl ?_ | refine x_aloadE_n d_Driver_nextRival_9 rfl rfl ?_ | refine x_aloadO_n d_Driver_nextRival_9 rfl rfl ?_
          refine x_getI d_Driver_nextRival_10 f_Driver_68 rfl (by exact uu.1) ?_
          refine x_iload_n d_Driver_nextRival_13 rfl rfl ?_
          refine x_if_eq (tgt := 21) d_Driver_nextRival_14 (by decide) (fun c14 => ?_) (fun c14 => ?_)
          · refine x_iconst (v := 4) d_Driver_nextRival_21 (by decide) ?_
            refine x_icmp_ne (tgt := 27) d_Driver_nextRival_22 (by decide) (fun c22 => ?_) (fun c22 => ?_)
            · refine x_iload_n d_Driver_nextRival_27 rfl rfl ?_
              refine x_if_eq (tgt := 42) d_Driver_nextRival_28 (by decide) (fun c28 => ?_) (fun c28 => ?_)
              · first | refine x_aload_n d_Driver_nextRival_42 rfl rfl ?_ | refine x_aloadN_n d_Driver_nextRival_42 rfl rfl ?_ | refine x_aloadE_n d_Driver_nextRival_42 rfl rfl ?_ | refine x_aloadO_n d_Driver_nextRival_42 rfl rfl ?_
                refine x_getQ d_Driver_nextRival_43 f_Driver_154 rfl (by exact uu.1) ((uu.2.2.1.2.2 3 rfl).1) ?_
                first | refine x_astore_n d_Driver_nextRival_46 rfl rfl ?_ | refine x_astoreN_n d_Driver_nextRival_46 rfl rfl ?_ | refine x_astoreE_n d_Driver_nextRival_46 rfl rfl ?_ | refine x_astoreO_n d_Driver_nextRival_46 rfl rfl ?_
                refine x_goto (tgt := 5) d_Driver_nextRival_47 (by decide) ?_
                exact ih _ (fun u hv => by have := hA k6 hu.2 u hv; omega) (by rw [nRiv, if_neg (show ¬ (tD T k6).1 7 = kdR false from fun z => c22 (k7.trans z)), if_neg (by rw [Bool.false_and]; decide)] at h2; exact h2)
              · exact absurd rfl c28
            · first | refine x_aload_n d_Driver_nextRival_25 rfl rfl ?_ | refine x_aloadN_n d_Driver_nextRival_25 rfl rfl ?_ | refine x_aloadE_n d_Driver_nextRival_25 rfl rfl ?_ | refine x_aloadO_n d_Driver_nextRival_25 rfl rfl ?_
              exact x_areturn d_Driver_nextRival_26 rfl (by rw [nRiv, if_pos (show (tD T k6).1 7 = kdR false from k7.symm.trans c22)] at h2; rw [← h2] at hQ; exact hQ)
          · exact absurd rfl c14
  refine Ct.of (lv := [some (rf G (133 + 5 * n)), some (.int (bI st)), none]) (ll := []) rfl rfl (EN.cat (n := 1) ⟨rfl, rfl, trivial⟩ (Nat.le_of_ble_eq_true rfl)) ?_
  first | refine x_aload_n d_Driver_nextRival_0 rfl rfl ?_ | refine x_aloadN_n d_Driver_nextRival_0 rfl rfl ?_ | refine x_aloadE_n d_Driver_nextRival_0 rfl rfl ?_ | refine x_aloadO_n d_Driver_nextRival_0 rfl rfl ?_
  refine x_getQ d_Driver_nextRival_1 f_Driver_154 rfl (by assumption) ((qq 3 rfl).1) ?_
  first | refine x_astore_n d_Driver_nextRival_4 rfl rfl ?_ | refine x_astoreN_n d_Driver_nextRival_4 rfl rfl ?_ | refine x_astoreE_n d_Driver_nextRival_4 rfl rfl ?_ | refine x_astoreO_n d_Driver_nextRival_4 rfl rfl ?_
  exact lp n _ (fun u hu => by have := hA n hn2 u hu; omega) rfl
def rRiv (T : TS) (st : Bool) (t : Nat → Bool) : Nat → Option Nat → Option Nat
  | 0, _ => none
  | _ + 1, none => none
  | f + 1, some u => if t u = true then some u else rRiv T st t f (nxR T st u)
theorem rRiv_none {T : TS} {st : Bool} {t : Nat → Bool} : ∀ f, rRiv T st t f none = none
  | 0 => rfl
  | _ + 1 => rfl
theorem rRiv_lt {T : TS} {st : Bool} {t : Nat → Bool} (hA : AW T) : ∀ {f : Nat} {o : Option Nat} {r : Nat}, (∀ u, o = some u → u < f ∧ u < tN T) → rRiv T st t f o = some r → r < f ∧ r < tN T
  | 0, o, r, h, e => by cases e
  | f + 1, none, r, h, e => by cases e
  | f + 1, some u, r, h, e => by
    have hu := h u rfl
    unfold rRiv at e
    split at e
    · cases e; exact hu
    · have := rRiv_lt hA (fun w hw => by have := nxR_lt hA hu.2 hw; omega) e
      omega
def t40 (T : TS) (n : Nat) : List Int32 := (ntm (tD T n)).take 40
def renR (T : TS) (st : Bool) (n : Nat) : Option Nat := rRiv T st (fun u => renI (t40 T n) (t40 T u)) n (nxR T st n)
def embR (P : Int32 → Int32) (T : TS) (st : Bool) (n : Nat) : Option Nat := rRiv T st (fun u => embB P (t40 T u) (t40 T n)) n (nxR T st n)
theorem renR_lt {T : TS} {st : Bool} {n r : Nat} (hA : AW T) (hn : n < tN T) (e : renR T st n = some r) : r < n ∧ r < tN T := rRiv_lt hA (fun w hw => nxR_lt hA hn hw) e
theorem embR_lt {P : Int32 → Int32} {T : TS} {st : Bool} {n r : Nat} (hA : AW T) (hn : n < tN T) (e : embR P T st n = some r) : r < n ∧ r < tN T := rRiv_lt hA (fun w hw => nxR_lt hA hn hw) e
def TF (P : Int32 → Int32) (T : TS) : Prop := ∀ n, n < tN T → full (nP P) 1 (t40 T n) = true
set_option maxRecDepth 10000 in
set_option maxHeartbeats 1000000 in
theorem c_Driver_renamedRival {G : Ctx} {d : Nat} {Γ : List Sh} {σ : Mem} {Q : Option Value → List Sh → Mem → Prop} {T : TS} {n : Nat} {st : Bool}  (hT : isTree Γ σ T) (hA : AW T) (hn2 : n < tN T) (hQ : Q (some (ov G ((renR T st n).map nc))) Γ σ) : Ct G M_Driver_renamedRival (d + 3) 0 0 [rf G (133 + 5 * n), .int (bI st)] Γ σ Q := by
  obtain ⟨-, -, -, ⟨-, t4b⟩, -⟩ := id hT
  have hn : n < 48 := by omega
  have lp : ∀ (f : Nat) (o : Option Nat) , (∀ u, o = some u → u < f ∧ u < tN T) → rRiv T st (fun u => renI (t40 T n) (t40 T u)) f o = renR T st n → Wq G M_Driver_renamedRival (Em G (d + 3) 0 0 Q) 0 0 6 [some (rf G (133 + 5 * n)), some (.int (bI st)), some (ov G (o.map nc))] [] [] Γ σ := by
    intro f
    induction f with
    | zero =>
      intro o h1 h2
      have ho : o = none := by
        cases o with
        | none => rfl
        | some u => exact absurd (h1 u rfl).1 (Nat.not_lt_zero _)
      subst ho
      first | refine x_aload_n d_Driver_renamedRival_6 rfl rfl ?_ | refine x_aloadN_n d_Driver_renamedRival_6 rfl rfl ?_ | refine x_aloadE_n d_Driver_renamedRival_6 rfl rfl ?_ | refine x_aloadO_n d_Driver_renamedRival_6 rfl rfl ?_
      refine x_ifnullN (tgt := 35) d_Driver_renamedRival_7 (by decide) ?_
      refine x_null d_Driver_renamedRival_35 ?_
      exact x_areturnN d_Driver_renamedRival_36 rfl (by have hq := hQ; rw [rRiv_none] at h2; rw [← h2] at hq; exact hq)
    | succ f ih =>
      intro o h1 h2
      first | refine x_aload_n d_Driver_renamedRival_6 rfl rfl ?_ | refine x_aloadN_n d_Driver_renamedRival_6 rfl rfl ?_ | refine x_aloadE_n d_Driver_renamedRival_6 rfl rfl ?_ | refine x_aloadO_n d_Driver_renamedRival_6 rfl rfl ?_
      rcases hO7 : o with _ | k7
      · subst hO7
        refine x_ifnullN (tgt := 35) d_Driver_renamedRival_7 (by decide) ?_
        refine x_null d_Driver_renamedRival_35 ?_
        exact x_areturnN d_Driver_renamedRival_36 rfl (by have hq := hQ; rw [rRiv_none] at h2; rw [← h2] at hq; exact hq)
      · subst hO7
        have hu := h1 _ rfl
        refine x_ifnull d_Driver_renamedRival_7 ?_
        first | refine x_aload_n d_Driver_renamedRival_10 rfl rfl ?_ | refine x_aloadN_n d_Driver_renamedRival_10 rfl rfl ?_ | refine x_aloadE_n d_Driver_renamedRival_10 rfl rfl ?_ | refine x_aloadO_n d_Driver_renamedRival_10 rfl rfl ?_
        refine x_getR d_Driver_renamedRival_11 f_Driver_78 rfl (by exact (hT.nd hn).1) ((hT.nd hn).2.2.1.1) ?_
        first | refine x_aload_n d_Driver_renamedRival_14 rfl rfl ?_ | refine x_aloadN_n d_Driver_renamedRival_14 rfl rfl ?_ | refine x_aloadE_n d_Driver_renamedRival_14 rfl rfl ?_ | refine x_aloadO_n d_Driver_renamedRival_14 rfl rfl ?_
        refine x_getR d_Driver_renamedRival_15 f_Driver_78 rfl (by exact (hT.nd (show k7 < 48 by omega)).1) ((hT.nd (show k7 < 48 by omega)).2.2.1.1) ?_
        refine x_callV1 d_Driver_renamedRival_18 k_Row_isRenamingOf l_Driver_146 v_Row_isRenamingOf rfl s_Row_isRenamingOf (by exact (hT.nd hn).2.2.2.1.1) RoomE.m (Nat.le_of_ble_eq_true rfl) (c_Row_isRenamingOf (hT.nd hn).2.2.2.1 (hT.nd (show k7 < 48 by omega)).2.2.2.1 ?_)
        refine x_if_eq (tgt := 26) d_Driver_renamedRival_21 (by decide) (fun c21 => ?_) (fun c21 => ?_)
        · first | refine x_aload_n d_Driver_renamedRival_26 rfl rfl ?_ | refine x_aloadN_n d_Driver_renamedRival_26 rfl rfl ?_ | refine x_aloadE_n d_Driver_renamedRival_26 rfl rfl ?_ | refine x_aloadO_n d_Driver_renamedRival_26 rfl rfl ?_
          refine x_iload_n d_Driver_renamedRival_27 rfl rfl ?_
          refine x_callS2 d_Driver_renamedRival_28 k_Driver_nextRival l_Driver_143 z_Driver_nextRival RoomE.m (Nat.le_of_ble_eq_true rfl) (c_Driver_nextRival hT hA hu.2 ?_)
          first | refine x_astore_n d_Driver_renamedRival_31 rfl rfl ?_ | refine x_astoreN_n d_Driver_renamedRival_31 rfl rfl ?_ | refine x_astoreE_n d_Driver_renamedRival_31 rfl rfl ?_ | refine x_astoreO_n d_Driver_renamedRival_31 rfl rfl ?_
          refine x_goto (tgt := 6) d_Driver_renamedRival_32 (by decide) ?_
          exact Wq.fg (ih _ (fun u hv => by have := nxR_lt hA hu.2 hv; omega) (by rw [rRiv, if_neg (by rw [show renI (t40 T n) (t40 T k7) = false from bI_0 c21]; decide)] at h2; exact h2)) ⟨rfl, rfl, rfl, trivial⟩
        · first | refine x_aload_n d_Driver_renamedRival_24 rfl rfl ?_ | refine x_aloadN_n d_Driver_renamedRival_24 rfl rfl ?_ | refine x_aloadE_n d_Driver_renamedRival_24 rfl rfl ?_ | refine x_aloadO_n d_Driver_renamedRival_24 rfl rfl ?_
          exact x_areturn d_Driver_renamedRival_25 rfl (by have hq := hQ; rw [rRiv, if_pos (show renI (t40 T n) (t40 T k7) = true from bI_n0 c21)] at h2; rw [← h2] at hq; exact hq)
  refine Ct.of (lv := [some (rf G (133 + 5 * n)), some (.int (bI st)), none]) (ll := []) rfl rfl (EN.cat (n := 1) ⟨rfl, rfl, trivial⟩ (Nat.le_of_ble_eq_true rfl)) ?_
  first | refine x_aload_n d_Driver_renamedRival_0 rfl rfl ?_ | refine x_aloadN_n d_Driver_renamedRival_0 rfl rfl ?_ | refine x_aloadE_n d_Driver_renamedRival_0 rfl rfl ?_ | refine x_aloadO_n d_Driver_renamedRival_0 rfl rfl ?_
  refine x_iload_n d_Driver_renamedRival_1 rfl rfl ?_
  refine x_callS2 d_Driver_renamedRival_2 k_Driver_nextRival l_Driver_143 z_Driver_nextRival RoomE.m (Nat.le_of_ble_eq_true rfl) (c_Driver_nextRival hT hA hn2 ?_)
  first | refine x_astore_n d_Driver_renamedRival_5 rfl rfl ?_ | refine x_astoreN_n d_Driver_renamedRival_5 rfl rfl ?_ | refine x_astoreE_n d_Driver_renamedRival_5 rfl rfl ?_ | refine x_astoreO_n d_Driver_renamedRival_5 rfl rfl ?_
  exact lp n _ (fun u hu => nxR_lt hA hn2 hu) rfl
set_option maxRecDepth 10000 in
set_option maxHeartbeats 1000000 in
theorem c_Driver_embeddedRival {G : Ctx} {d : Nat} {Γ : List Sh} {σ : Mem} {Q : Option Value → List Sh → Mem → Prop} {T : TS} {n : Nat} {st : Bool} {pt : Nat → Int32} {cs : Nat → Bool}  (hD : isDrv Γ σ) (hT : isTree Γ σ T) (hG : isSg Γ σ 27 pt cs) (hA : AW T) (hP : PB (sgP pt)) (hF : TF (sgP pt) T) (hn2 : n < tN T) (hQ : ∀ σ', Fr [30, 31, 32] σ σ' → Q (some (ov G ((embR (sgP pt) T st n).map nc))) Γ σ') : Ct G M_Driver_embeddedRival (d + 3) 0 0 [rf G 373, rf G (133 + 5 * n), .int (bI st)] Γ σ Q := by
  obtain ⟨v0, ⟨v1, v2, v3, v4, v5, v6, v7, v8⟩, -⟩ := id hD
  obtain ⟨-, -, -, ⟨-, t4b⟩, -⟩ := id hT
  have hn : n < 48 := by omega
  have lp : ∀ (f : Nat) (o : Option Nat) (τ : Mem), Fr [30, 31, 32] σ τ → (∀ u, o = some u → u < f ∧ u < tN T) → rRiv T st (fun u => embB (sgP pt) (t40 T u) (t40 T n)) f o = embR (sgP pt) T st n → Wq G M_Driver_embeddedRival (Em G (d + 3) 0 0 Q) 0 0 6 [some (rf G 373), some (rf G (133 + 5 * n)), some (.int (bI st)), some (ov G (o.map nc))] [] [] Γ τ := by
    intro f
    induction f with
    | zero =>
      intro o τ f0 h1 h2
      have ho : o = none := by
        cases o with
        | none => rfl
        | some u => exact absurd (h1 u rfl).1 (Nat.not_lt_zero _)
      subst ho
      first | refine x_aload_n d_Driver_embeddedRival_6 rfl rfl ?_ | refine x_aloadN_n d_Driver_embeddedRival_6 rfl rfl ?_ | refine x_aloadE_n d_Driver_embeddedRival_6 rfl rfl ?_ | refine x_aloadO_n d_Driver_embeddedRival_6 rfl rfl ?_
      refine x_ifnullN (tgt := 39) d_Driver_embeddedRival_7 (by decide) ?_
      refine x_null d_Driver_embeddedRival_39 ?_
      exact x_areturnN d_Driver_embeddedRival_40 rfl (by have hq := hQ τ f0; rw [rRiv_none] at h2; rw [← h2] at hq; exact hq)
    | succ f ih =>
      intro o τ f0 h1 h2
      have G1 : isSg Γ τ 27 pt cs := hG.Fr f0 (by simp) (by simp) (by simp)
      have T1 := hT.P (f0.P (T := fun a => a = 30 ∨ a = 31 ∨ a = 32) (by simp)) (fun a ha hb => by unfold inT at ha; omega)
      have v1 : τ.2.1 373 0 = some 27 := by rw [(f0 373 (by simp)).2.1]; exact v1
      first | refine x_aload_n d_Driver_embeddedRival_6 rfl rfl ?_ | refine x_aloadN_n d_Driver_embeddedRival_6 rfl rfl ?_ | refine x_aloadE_n d_Driver_embeddedRival_6 rfl rfl ?_ | refine x_aloadO_n d_Driver_embeddedRival_6 rfl rfl ?_
      rcases hO7 : o with _ | k7
      · subst hO7
        refine x_ifnullN (tgt := 39) d_Driver_embeddedRival_7 (by decide) ?_
        refine x_null d_Driver_embeddedRival_39 ?_
        exact x_areturnN d_Driver_embeddedRival_40 rfl (by have hq := hQ τ f0; rw [rRiv_none] at h2; rw [← h2] at hq; exact hq)
      · subst hO7
        have hu := h1 _ rfl
        refine x_ifnull d_Driver_embeddedRival_7 ?_
        first | refine x_aload_n d_Driver_embeddedRival_10 rfl rfl ?_ | refine x_aloadN_n d_Driver_embeddedRival_10 rfl rfl ?_ | refine x_aloadE_n d_Driver_embeddedRival_10 rfl rfl ?_ | refine x_aloadO_n d_Driver_embeddedRival_10 rfl rfl ?_
        refine x_getR d_Driver_embeddedRival_11 f_Driver_26 rfl (by assumption) (v1) ?_
        first | refine x_aload_n d_Driver_embeddedRival_14 rfl rfl ?_ | refine x_aloadN_n d_Driver_embeddedRival_14 rfl rfl ?_ | refine x_aloadE_n d_Driver_embeddedRival_14 rfl rfl ?_ | refine x_aloadO_n d_Driver_embeddedRival_14 rfl rfl ?_
        refine x_getR d_Driver_embeddedRival_15 f_Driver_78 rfl (by exact (T1.nd (show k7 < 48 by omega)).1) ((T1.nd (show k7 < 48 by omega)).2.2.1.1) ?_
        first | refine x_aload_n d_Driver_embeddedRival_18 rfl rfl ?_ | refine x_aloadN_n d_Driver_embeddedRival_18 rfl rfl ?_ | refine x_aloadE_n d_Driver_embeddedRival_18 rfl rfl ?_ | refine x_aloadO_n d_Driver_embeddedRival_18 rfl rfl ?_
        refine x_getR d_Driver_embeddedRival_19 f_Driver_78 rfl (by exact (T1.nd hn).1) ((T1.nd hn).2.2.1.1) ?_
        refine x_callV2 d_Driver_embeddedRival_22 k_Signs_isEmbedded l_Driver_150 v_Signs_isEmbedded rfl s_Signs_isEmbedded (by exact G1.1.1) RoomE.m (Nat.le_of_ble_eq_true rfl) (c_Signs_isEmbedded G1 (T1.nd (show k7 < 48 by omega)).2.2.2.1 (T1.nd hn).2.2.2.1 hP (by rw [List.length_take]; omega) (by rw [List.length_take]; omega) (hF k7 hu.2) (hF n hn2) (by omega) (by omega) (fun τ2 f2 => ?_))
        refine x_if_eq (tgt := 30) d_Driver_embeddedRival_25 (by decide) (fun c25 => ?_) (fun c25 => ?_)
        · first | refine x_aload_n d_Driver_embeddedRival_30 rfl rfl ?_ | refine x_aloadN_n d_Driver_embeddedRival_30 rfl rfl ?_ | refine x_aloadE_n d_Driver_embeddedRival_30 rfl rfl ?_ | refine x_aloadO_n d_Driver_embeddedRival_30 rfl rfl ?_
          refine x_iload_n d_Driver_embeddedRival_31 rfl rfl ?_
          refine x_callS2 d_Driver_embeddedRival_32 k_Driver_nextRival l_Driver_143 z_Driver_nextRival RoomE.m (Nat.le_of_ble_eq_true rfl) (c_Driver_nextRival (T1.P (f2.P (T := fun a => a = 30 ∨ a = 31 ∨ a = 32) (by simp)) (fun a ha hb => by unfold inT at ha; omega)) hA hu.2 ?_)
          first | refine x_astore_n d_Driver_embeddedRival_35 rfl rfl ?_ | refine x_astoreN_n d_Driver_embeddedRival_35 rfl rfl ?_ | refine x_astoreE_n d_Driver_embeddedRival_35 rfl rfl ?_ | refine x_astoreO_n d_Driver_embeddedRival_35 rfl rfl ?_
          refine x_goto (tgt := 6) d_Driver_embeddedRival_36 (by decide) ?_
          exact Wq.fg (ih _ τ2 (f0.tr f2) (fun u hv => by have := nxR_lt hA hu.2 hv; omega) (by rw [rRiv, if_neg (by rw [show embB (sgP pt) (t40 T k7) (t40 T n) = false from bI_0 c25]; decide)] at h2; exact h2)) ⟨rfl, rfl, rfl, rfl, trivial⟩
        · first | refine x_aload_n d_Driver_embeddedRival_28 rfl rfl ?_ | refine x_aloadN_n d_Driver_embeddedRival_28 rfl rfl ?_ | refine x_aloadE_n d_Driver_embeddedRival_28 rfl rfl ?_ | refine x_aloadO_n d_Driver_embeddedRival_28 rfl rfl ?_
          exact x_areturn d_Driver_embeddedRival_29 rfl (by have hq := hQ τ2 (f0.tr f2); rw [rRiv, if_pos (show embB (sgP pt) (t40 T k7) (t40 T n) = true from bI_n0 c25)] at h2; rw [← h2] at hq; exact hq)
  refine Ct.of (lv := [some (rf G 373), some (rf G (133 + 5 * n)), some (.int (bI st)), none]) (ll := []) rfl rfl (EN.cat (n := 1) ⟨rfl, rfl, rfl, trivial⟩ (Nat.le_of_ble_eq_true rfl)) ?_
  first | refine x_aload_n d_Driver_embeddedRival_0 rfl rfl ?_ | refine x_aloadN_n d_Driver_embeddedRival_0 rfl rfl ?_ | refine x_aloadE_n d_Driver_embeddedRival_0 rfl rfl ?_ | refine x_aloadO_n d_Driver_embeddedRival_0 rfl rfl ?_
  refine x_iload_n d_Driver_embeddedRival_1 rfl rfl ?_
  refine x_callS2 d_Driver_embeddedRival_2 k_Driver_nextRival l_Driver_143 z_Driver_nextRival RoomE.m (Nat.le_of_ble_eq_true rfl) (c_Driver_nextRival hT hA hn2 ?_)
  first | refine x_astore_n d_Driver_embeddedRival_5 rfl rfl ?_ | refine x_astoreN_n d_Driver_embeddedRival_5 rfl rfl ?_ | refine x_astoreE_n d_Driver_embeddedRival_5 rfl rfl ?_ | refine x_astoreO_n d_Driver_embeddedRival_5 rfl rfl ?_
  exact lp n _ σ Fr.rf (fun u hu => nxR_lt hA hn2 hu) rfl
def tBld (P : Int32 → Int32) (n : Nat) (zs : List Int32) (tl : Bool) : Nat → Nat → TS → TS
  | 0, _, T => T
  | k + 1, pl, T => tBld P n zs tl k (behind P zs pl) (tAdd T (some n) ((zs.take (behind P zs pl)).drop pl) tl).1
def tSwc (P : Int32 → Int32) (T : TS) (n : Nat) : TS := if nP P ((t40 T n).getD 0 (-1)) = 0 then tUp T n (nBecome (tD T n) 1 (-1)) else tBld P n (t40 T n) (decide (40 < (ntm (tD T n)).length)) (nP P ((t40 T n).getD 0 (-1))) 1 (tUp T n (nBecome (tD T n) 2 ((t40 T n).getD 0 (-1) - 100)))
set_option maxRecDepth 10000 in
set_option maxHeartbeats 1000000 in
theorem c_Driver_settleWithoutCall {G : Ctx} {d : Nat} {Γ : List Sh} {σ : Mem} {Q : Option Value → List Sh → Mem → Prop} {T : TS} {n : Nat} {pt : Nat → Int32} {cs : Nat → Bool}  (hD : isDrv Γ σ) (hT : isTree Γ σ T) (hG : isSg Γ σ 27 pt cs) (hnt : n < tN T) (hP : PB (sgP pt)) (hf : full (nP (sgP pt)) 1 (t40 T n) = true) (hQ : ∀ σ', isTree Γ σ' (tSwc (sgP pt) T n) → FrP inT σ σ' → Q none Γ σ') : Ct G M_Driver_settleWithoutCall (d + 4) 0 0 [rf G 373, rf G (133 + 5 * n)] Γ σ Q := by
  obtain ⟨v0, ⟨v1, v2, v3, v4, v5, v6, v7, v8⟩, -⟩ := id hD
  obtain ⟨t1, -, -, ⟨-, t4b⟩, -⟩ := id hT
  have hn : n < 48 := by omega
  have hN := hT.nd hn
  obtain ⟨n0, -, ⟨q1, -⟩, nt, -⟩ := id hN
  have h0l : 1 ≤ (t40 T n).length := full_ne (m := 0) hf
  have hpp := hP.le ((t40 T n).getD 0 (-1))
  have lp : ∀ (k : Nat) (t : Nat) (T0 : TS) (τ : Mem), t + k = nP (sgP pt) ((t40 T n).getD 0 (-1)) → tBld (sgP pt) n (t40 T n) (decide (40 < (ntm (tD T n)).length)) k (ends (sgP pt) (t40 T n) 1 t) T0 = (tSwc (sgP pt) T n) → isTree Γ τ T0 → FrP inT σ τ → n < tN T0 → ntm (tD T0 n) = ntm (tD T n) → Wq G M_Driver_settleWithoutCall (Em G (d + 4) 0 0 Q) 0 0 48 [some (rf G 373), some (rf G (133 + 5 * n)), some (rf G (134 + 5 * n)), some (.int (nI (nP (sgP pt) ((t40 T n).getD 0 (-1))))), some (.int (nI (ends (sgP pt) (t40 T n) 1 t))), some (.int (nI t)), none] [] [] Γ τ := by
    intro k
    induction k with
    | zero =>
      intro t T0 τ h1 h2 T1 f0 hnc hm
      refine x_iload d_Driver_settleWithoutCall_48 rfl ?_
      refine x_iload_n d_Driver_settleWithoutCall_50 rfl rfl ?_
      refine x_icmp_ge (tgt := 90) d_Driver_settleWithoutCall_51 (by decide) (fun c51 => ?_) (fun c51 => ?_)
      · exact x_return d_Driver_settleWithoutCall_90 rfl (hQ τ (by rw [← h2]; exact T1) f0)
      · exact absurd (nI_le (by omega) (by omega)) c51
    | succ k ih =>
      intro t T0 τ h1 h2 T1 f0 hnc hm
      have R1 := (T1.nd hn).2.2.2.1
      rw [hm] at R1
      refine x_iload d_Driver_settleWithoutCall_48 rfl ?_
      refine x_iload_n d_Driver_settleWithoutCall_50 rfl rfl ?_
      refine x_icmp_ge (tgt := 90) d_Driver_settleWithoutCall_51 (by decide) (fun c51 => ?_) (fun c51 => ?_)
      · rw [nI_leI (by omega) (by omega)] at c51; omega
      · first | refine x_aload_n d_Driver_settleWithoutCall_54 rfl rfl ?_ | refine x_aloadN_n d_Driver_settleWithoutCall_54 rfl rfl ?_ | refine x_aloadE_n d_Driver_settleWithoutCall_54 rfl rfl ?_ | refine x_aloadO_n d_Driver_settleWithoutCall_54 rfl rfl ?_
        refine x_getR d_Driver_settleWithoutCall_55 f_Driver_26 rfl (by exact hD.1) ((hD.T f0).2.1.1) ?_
        first | refine x_aload_n d_Driver_settleWithoutCall_58 rfl rfl ?_ | refine x_aloadN_n d_Driver_settleWithoutCall_58 rfl rfl ?_ | refine x_aloadE_n d_Driver_settleWithoutCall_58 rfl rfl ?_ | refine x_aloadO_n d_Driver_settleWithoutCall_58 rfl rfl ?_
        refine x_iload d_Driver_settleWithoutCall_59 rfl ?_
        refine x_callV2 d_Driver_settleWithoutCall_61 k_Signs_behind l_Driver_139 v_Signs_behind rfl s_Signs_behind (by exact hG.1.1) RoomE.m (Nat.le_of_ble_eq_true rfl) (c_Signs_behind (sg_T hG f0) R1 (ends_le h0l t) ?_)
        refine x_istore d_Driver_settleWithoutCall_64 rfl ?_
        first | refine x_aload_n d_Driver_settleWithoutCall_66 rfl rfl ?_ | refine x_aloadN_n d_Driver_settleWithoutCall_66 rfl rfl ?_ | refine x_aloadE_n d_Driver_settleWithoutCall_66 rfl rfl ?_ | refine x_aloadO_n d_Driver_settleWithoutCall_66 rfl rfl ?_
        refine x_getR d_Driver_settleWithoutCall_67 f_Driver_34 rfl (by exact hD.1) ((hD.T f0).2.1.2.2.1) ?_
        first | refine x_aload_n d_Driver_settleWithoutCall_70 rfl rfl ?_ | refine x_aloadN_n d_Driver_settleWithoutCall_70 rfl rfl ?_ | refine x_aloadE_n d_Driver_settleWithoutCall_70 rfl rfl ?_ | refine x_aloadO_n d_Driver_settleWithoutCall_70 rfl rfl ?_
        first | refine x_aload_n d_Driver_settleWithoutCall_71 rfl rfl ?_ | refine x_aloadN_n d_Driver_settleWithoutCall_71 rfl rfl ?_ | refine x_aloadE_n d_Driver_settleWithoutCall_71 rfl rfl ?_ | refine x_aloadO_n d_Driver_settleWithoutCall_71 rfl rfl ?_
        refine x_iload d_Driver_settleWithoutCall_72 rfl ?_
        refine x_iload d_Driver_settleWithoutCall_74 rfl ?_
        refine x_callV4 d_Driver_settleWithoutCall_76 k_Tree_add l_Driver_60 v_Tree_add rfl s_Tree_add (by exact hT.1) RoomE.m (Nat.le_of_ble_eq_true rfl) (c_Tree_add (ab := some n) T1 R1 (fun h => by unfold inN; omega) (by omega) (lk48.s hn) behind_ge (behind_le (ends_le h0l t)) (fun τ2 T2 f2 => ?_))
        first | refine x_pop d_Driver_settleWithoutCall_79 ov_cat ?_ | refine x_pop d_Driver_settleWithoutCall_79 rfl ?_
        refine x_iload d_Driver_settleWithoutCall_80 rfl ?_
        refine x_istore d_Driver_settleWithoutCall_82 rfl ?_
        refine x_iinc (v := nI (t + 1)) d_Driver_settleWithoutCall_84 rfl (nI_1 t) rfl ?_
        refine x_goto (tgt := 48) d_Driver_settleWithoutCall_87 (by decide) ?_
        exact Wq.fg (ih (t + 1) _ τ2 (by omega) (by rw [tBld] at h2; exact h2) T2 (f0.tr f2) (Nat.lt_of_lt_of_le hnc (tAdd_o hnc).2.2.2) (by rw [← hm]; exact congrArg Prod.fst (tAdd_o hnc).2.1)) ⟨rfl, rfl, rfl, rfl, rfl, rfl, trivial⟩
  refine Ct.of (lv := [some (rf G 373), some (rf G (133 + 5 * n)), none, none, none, none, none]) (ll := []) rfl rfl (EN.cat (n := 5) ⟨rfl, rfl, trivial⟩ (Nat.le_of_ble_eq_true rfl)) ?_
  first | refine x_aload_n d_Driver_settleWithoutCall_0 rfl rfl ?_ | refine x_aloadN_n d_Driver_settleWithoutCall_0 rfl rfl ?_ | refine x_aloadE_n d_Driver_settleWithoutCall_0 rfl rfl ?_ | refine x_aloadO_n d_Driver_settleWithoutCall_0 rfl rfl ?_
  refine x_getR d_Driver_settleWithoutCall_1 f_Driver_78 rfl (by exact n0) (q1) ?_
  first | refine x_astore_n d_Driver_settleWithoutCall_4 rfl rfl ?_ | refine x_astoreN_n d_Driver_settleWithoutCall_4 rfl rfl ?_ | refine x_astoreE_n d_Driver_settleWithoutCall_4 rfl rfl ?_ | refine x_astoreO_n d_Driver_settleWithoutCall_4 rfl rfl ?_
  first | refine x_aload_n d_Driver_settleWithoutCall_5 rfl rfl ?_ | refine x_aloadN_n d_Driver_settleWithoutCall_5 rfl rfl ?_ | refine x_aloadE_n d_Driver_settleWithoutCall_5 rfl rfl ?_ | refine x_aloadO_n d_Driver_settleWithoutCall_5 rfl rfl ?_
  refine x_getR d_Driver_settleWithoutCall_6 f_Driver_26 rfl (by exact hD.1) (v1) ?_
  first | refine x_aload_n d_Driver_settleWithoutCall_9 rfl rfl ?_ | refine x_aloadN_n d_Driver_settleWithoutCall_9 rfl rfl ?_ | refine x_aloadE_n d_Driver_settleWithoutCall_9 rfl rfl ?_ | refine x_aloadO_n d_Driver_settleWithoutCall_9 rfl rfl ?_
  refine x_iconst (v := 0) d_Driver_settleWithoutCall_10 (by decide) ?_
  refine x_callV1 d_Driver_settleWithoutCall_11 k_Row_at l_Driver_81 v_Row_at rfl s_Row_at (by exact nt.1) RoomE.m (Nat.le_of_ble_eq_true rfl) (c_Row_at (i := nI 0) nt ?_)
  rw [atI_nI (by omega)]
  refine x_callV1 d_Driver_settleWithoutCall_14 k_Signs_partsOf l_Driver_136 v_Signs_partsOf rfl s_Signs_partsOf (by exact hG.1.1) RoomE.m (Nat.le_of_ble_eq_true rfl) (c_Signs_partsOf hG ?_)
  rw [(hP.le _).2]
  refine x_istore_n d_Driver_settleWithoutCall_17 rfl rfl ?_
  refine x_iload_n d_Driver_settleWithoutCall_18 rfl rfl ?_
  refine x_if_ne (tgt := 29) d_Driver_settleWithoutCall_19 (by decide) (fun c19 => ?_) (fun c19 => ?_)
  · first | refine x_aload_n d_Driver_settleWithoutCall_29 rfl rfl ?_ | refine x_aloadN_n d_Driver_settleWithoutCall_29 rfl rfl ?_ | refine x_aloadE_n d_Driver_settleWithoutCall_29 rfl rfl ?_ | refine x_aloadO_n d_Driver_settleWithoutCall_29 rfl rfl ?_
    refine x_iconst (v := 2) d_Driver_settleWithoutCall_30 (by decide) ?_
    first | refine x_aload_n d_Driver_settleWithoutCall_31 rfl rfl ?_ | refine x_aloadN_n d_Driver_settleWithoutCall_31 rfl rfl ?_ | refine x_aloadE_n d_Driver_settleWithoutCall_31 rfl rfl ?_ | refine x_aloadO_n d_Driver_settleWithoutCall_31 rfl rfl ?_
    refine x_iconst (v := 0) d_Driver_settleWithoutCall_32 (by decide) ?_
    refine x_callV1 d_Driver_settleWithoutCall_33 k_Row_at l_Driver_81 v_Row_at rfl s_Row_at (by exact nt.1) RoomE.m (Nat.le_of_ble_eq_true rfl) (c_Row_at (i := nI 0) nt ?_)
    rw [atI_nI (by omega)]
    refine x_bipush (v := 100) d_Driver_settleWithoutCall_36 (by decide) ?_
    refine x_isub d_Driver_settleWithoutCall_38 ?_
    refine x_callV2 d_Driver_settleWithoutCall_39 k_Node_become l_Driver_111 v_Node_become rfl s_Node_become (by exact n0) RoomE.m (Nat.le_of_ble_eq_true rfl) (c_Node_become hN (fun τ1 N1 f1 => ?_))
    refine x_iconst (v := 1) d_Driver_settleWithoutCall_42 (by decide) ?_
    refine x_istore d_Driver_settleWithoutCall_43 rfl ?_
    refine x_iconst (v := 0) d_Driver_settleWithoutCall_45 (by decide) ?_
    refine x_istore d_Driver_settleWithoutCall_46 rfl ?_
    have f2 : FrP (inN n) σ τ1 := f1.N (by simp [inN] <;> omega)
    have T1 := hT.up hn f2 N1
    have hz : ¬ nP (sgP pt) ((t40 T n).getD 0 (-1)) = 0 := fun z => c19 (show nI (nP (sgP pt) ((t40 T n).getD 0 (-1))) = 0 by rw [z, nI_0])
    exact Wq.fg (lp (nP (sgP pt) ((t40 T n).getD 0 (-1))) 0 _ τ1 (by omega) (by rw [tSwc, if_neg hz]; rfl) T1 (f2.T hn) hnt (by rw [tD_up]; rfl)) ⟨rfl, rfl, rfl, rfl, rfl, by rw [nI_0], trivial⟩
  · first | refine x_aload_n d_Driver_settleWithoutCall_22 rfl rfl ?_ | refine x_aloadN_n d_Driver_settleWithoutCall_22 rfl rfl ?_ | refine x_aloadE_n d_Driver_settleWithoutCall_22 rfl rfl ?_ | refine x_aloadO_n d_Driver_settleWithoutCall_22 rfl rfl ?_
    refine x_iconst (v := 1) d_Driver_settleWithoutCall_23 (by decide) ?_
    refine x_iconst (v := -1) d_Driver_settleWithoutCall_24 (by decide) ?_
    refine x_callV2 d_Driver_settleWithoutCall_25 k_Node_become l_Driver_111 v_Node_become rfl s_Node_become (by exact n0) RoomE.m (Nat.le_of_ble_eq_true rfl) (c_Node_become hN (fun τ1 N1 f1 => ?_))
    exact x_return d_Driver_settleWithoutCall_28 rfl (by
      have f2 : FrP (inN n) σ τ1 := f1.N (by simp [inN] <;> omega)
      have T1 := hT.up hn f2 N1
      have hz : nP (sgP pt) ((t40 T n).getD 0 (-1)) = 0 := (nI_eq (a := nP (sgP pt) ((t40 T n).getD 0 (-1))) (b := 0) (by omega) (by omega)).mp (by rw [nI_0]; exact c19)
      rw [tSwc, if_pos hz] at hQ
      exact hQ τ1 T1 (f2.T hn))
