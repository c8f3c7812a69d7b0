/-! SuperDriver$ResidualProgram at cell 385 -/
theorem x_tblIn {G : Ctx} {M : Mth} {E : Ev} {bc bs pc : Nat} {lv : List (Option Value)} {ll : List (Nat × Int64)} {st : List Value} {Γ : List Sh} {σ : Mem} {x : Int32} {dflt lo hi off : Int} {offs : Array Int} {len tgt : Nat} (hd : decode (mcd M) pc = .ok (.tableswitch dflt lo hi offs, len)) (h1 : ¬ x.toInt < lo) (h2 : ¬ hi < x.toInt) (ho : offs[(x.toInt - lo).toNat]? = some off) (ht : (pc : Int) + off = (tgt : Int)) (k : Wq G M E bc bs tgt lv ll st Γ σ) : Wq G M E bc bs pc lv ll (.int x :: st) Γ σ := Wq.lift (fun hx hb hl kk => lv_tableIn hx hb hd h1 h2 ho ht kk) k
theorem x_tblOut {G : Ctx} {M : Mth} {E : Ev} {bc bs pc : Nat} {lv : List (Option Value)} {ll : List (Nat × Int64)} {st : List Value} {Γ : List Sh} {σ : Mem} {x : Int32} {dflt lo hi : Int} {offs : Array Int} {len tgt : Nat} (hd : decode (mcd M) pc = .ok (.tableswitch dflt lo hi offs, len)) (h : x.toInt < lo ∨ hi < x.toInt) (ht : (pc : Int) + dflt = (tgt : Int)) (k : Wq G M E bc bs tgt lv ll st Γ σ) : Wq G M E bc bs pc lv ll (.int x :: st) Γ σ := Wq.lift (fun hx hb hl kk => lv_tableOut hx hb hd h ht kk) k
def isRes (Γ : List Sh) (σ : Mem) : Prop := Γ[385]? = some (0, 9) ∧ σ.2.1 385 0 = some 131 ∧ σ.2.1 385 1 = some 27 ∧ σ.2.1 385 2 = some 22
theorem isRes.P {Γ : List Sh} {σ σ' : Mem} {X : Nat → Prop} (h : isRes Γ σ) (hf : FrP X σ σ') (h0 : ¬ X 385) : isRes Γ σ' := by
  obtain ⟨a, b, c, d⟩ := h
  have h1 := (hf 385 h0).2.1
  exact ⟨a, by rw [h1]; exact b, by rw [h1]; exact c, by rw [h1]; exact d⟩
theorem isRes.pr {Γ : List Sh} {σ : Mem} (h : isRes Γ σ) : isPr Γ σ 9 385 27 22 := ⟨h.1, h.2.2.1, h.2.2.2⟩
def r100 (T : TS) (n : Nat) : List Int32 := (nrs (tD T n)).take 100
/-- links down go to higher numbers -/
def BW (T : TS) : Prop := ∀ n, n < tN T → ∀ m, ((tD T n).2.1 4 = some m ∨ (tD T n).2.1 6 = some m) → n < m ∧ m < tN T
def clB (T : TS) (c : Int32) : Nat → Option Nat → Option Nat
  | 0, _ => none
  | _ + 1, none => none
  | f + 1, some u => if (tD T u).1 11 = c then some u else clB T c f ((tD T u).2.1 6)
theorem clB_none {T : TS} {c : Int32} : ∀ f, clB T c f none = none
  | 0 => rfl
  | _ + 1 => rfl
def clBel (T : TS) (n : Nat) (c : Int32) : Option Nat := clB T c 48 ((tD T n).2.1 4)
theorem clB_lt {T : TS} {c : Int32} (hB : BW T) : ∀ {f : Nat} {o : Option Nat} {r : Nat}, (∀ u, o = some u → u < tN T) → clB T c f o = some r → r < tN T
  | 0, o, r, h, e => by cases e
  | f + 1, none, r, h, e => by cases e
  | f + 1, some u, r, h, e => by
    have hu := h u rfl
    unfold clB at e
    split at e
    · cases e; exact hu
    · exact clB_lt hB (fun w hw => (hB u hu w (Or.inr hw)).2) e
theorem clBel_lt {T : TS} {c : Int32} {n r : Nat} (hB : BW T) (hn : n < tN T) (h : clBel T n c = some r) : r < tN T := clB_lt hB (fun w hw => (hB n hn w (Or.inl hw)).2) h
set_option maxRecDepth 10000 in
set_option maxHeartbeats 1000000 in
theorem c_ResidualProgram_start {G : Ctx} {d : Nat} {Γ : List Sh} {σ : Mem} {Q : Option Value → List Sh → Mem → Prop} {T : TS}  (hRs : isRes Γ σ) (hT : isTree Γ σ T) (hQ : Q (some (ov G (if 0 < tN T then some 136 else none))) Γ σ) : Ct G M_ResidualProgram_start (d + 1) 0 0 [rf G 385] Γ σ Q := by
  obtain ⟨p0, p1, p2, p3⟩ := id hRs

  refine Ct.of (lv := [some (rf G 385), none]) (ll := []) rfl rfl (EN.cat (n := 1) ⟨rfl, trivial⟩ (Nat.le_of_ble_eq_true rfl)) ?_
  first | refine x_aload_n d_ResidualProgram_start_0 rfl rfl ?_ | refine x_aloadN_n d_ResidualProgram_start_0 rfl rfl ?_ | refine x_aloadE_n d_ResidualProgram_start_0 rfl rfl ?_ | refine x_aloadO_n d_ResidualProgram_start_0 rfl rfl ?_
  refine x_getR d_ResidualProgram_start_1 f_ResidualProgram_9 rfl (by assumption) (by assumption) ?_
  refine x_iconst (v := 0) d_ResidualProgram_start_4 (by decide) ?_
  refine x_callV1 d_ResidualProgram_start_5 k_Tree_get l_ResidualProgram_15 v_Tree_get rfl s_Tree_get (by exact hT.1) RoomE.m (Nat.le_of_ble_eq_true rfl) (c_Tree_get (i := nI 0) hT ?_)
  rw [tGet_nI (by omega)]
  first | refine x_astore_n d_ResidualProgram_start_8 rfl rfl ?_ | refine x_astoreN_n d_ResidualProgram_start_8 rfl rfl ?_ | refine x_astoreE_n d_ResidualProgram_start_8 rfl rfl ?_ | refine x_astoreO_n d_ResidualProgram_start_8 rfl rfl ?_
  by_cases hz : 0 < tN T
  case pos =>
    rw [if_pos hz] at hQ ⊢
    refine x_aload_n (x := 133) d_ResidualProgram_start_9 rfl rfl ?_
    refine x_ifnonnull (tgt := 17) d_ResidualProgram_start_10 (by decide) ?_
    refine x_aload_n (x := 133) d_ResidualProgram_start_17 rfl rfl ?_
    refine x_getR d_ResidualProgram_start_18 f_ResidualProgram_21 rfl (by exact (hT.nd (n := 0) (by omega)).1) ((hT.nd (n := 0) (by omega)).2.2.1.2.1) ?_
    exact x_areturn d_ResidualProgram_start_21 rfl hQ
  case neg =>
    rw [if_neg hz] at hQ ⊢
    refine x_aloadN_n d_ResidualProgram_start_9 rfl rfl ?_
    refine x_ifnonnullN d_ResidualProgram_start_10 ?_
    refine x_null d_ResidualProgram_start_13 ?_
    refine x_goto (tgt := 21) d_ResidualProgram_start_14 (by decide) ?_
    exact x_areturnN d_ResidualProgram_start_21 rfl hQ
set_option maxRecDepth 10000 in
set_option maxHeartbeats 1000000 in
theorem c_ResidualProgram_clauseBelow {G : Ctx} {d : Nat} {Γ : List Sh} {σ : Mem} {Q : Option Value → List Sh → Mem → Prop} {T : TS} {n : Nat} {c : Int32}  (hT : isTree Γ σ T) (hB : BW T) (hn2 : n < tN T) (hQ : Q (some (ov G ((clBel T n c).map nc))) Γ σ) : Ct G M_ResidualProgram_clauseBelow d 0 0 [rf G (133 + 5 * n), .int c] Γ σ Q := by
  obtain ⟨-, -, -, ⟨-, t4b⟩, -⟩ := id hT
  have hn : n < 48 := by omega
  obtain ⟨n0, ⟨i0, ii⟩, ⟨q1, q2, qq⟩, nt, nr⟩ := id (hT.nd hn)
  have lp : ∀ (f : Nat) (o : Option Nat), (∀ u, o = some u → u < tN T ∧ 48 ≤ u + f) → clB T c f o = clBel T n c → Wq G M_ResidualProgram_clauseBelow (Em G d 0 0 Q) 0 0 5 [some (rf G (133 + 5 * n)), some (.int c), some (ov G (o.map nc))] [] [] Γ σ := by
    intro f
    induction f with
    | zero =>
      intro o h1 h2
      have ho : o = none := by
        cases o with
        | none => rfl
        | some u => exact absurd (h1 u rfl) (by omega)
      subst ho
      first | refine x_aload_n d_ResidualProgram_clauseBelow_5 rfl rfl ?_ | refine x_aloadN_n d_ResidualProgram_clauseBelow_5 rfl rfl ?_ | refine x_aloadE_n d_ResidualProgram_clauseBelow_5 rfl rfl ?_ | refine x_aloadO_n d_ResidualProgram_clauseBelow_5 rfl rfl ?_
      refine x_ifnullN (tgt := 27) d_ResidualProgram_clauseBelow_6 (by decide) ?_
      refine x_null d_ResidualProgram_clauseBelow_27 ?_
      exact x_areturnN d_ResidualProgram_clauseBelow_28 rfl (by rw [clB_none] at h2; rw [← h2] at hQ; exact hQ)
    | succ f ih =>
      intro o h1 h2
      first | refine x_aload_n d_ResidualProgram_clauseBelow_5 rfl rfl ?_ | refine x_aloadN_n d_ResidualProgram_clauseBelow_5 rfl rfl ?_ | refine x_aloadE_n d_ResidualProgram_clauseBelow_5 rfl rfl ?_ | refine x_aloadO_n d_ResidualProgram_clauseBelow_5 rfl rfl ?_
      rcases hO6 : o with _ | k6
      · subst hO6
        refine x_ifnullN (tgt := 27) d_ResidualProgram_clauseBelow_6 (by decide) ?_
        refine x_null d_ResidualProgram_clauseBelow_27 ?_
        exact x_areturnN d_ResidualProgram_clauseBelow_28 rfl (by rw [clB_none] at h2; rw [← h2] at hQ; exact hQ)
      · subst hO6
        have hu := h1 _ rfl
        have uu := hT.nd (show k6 < 48 by omega)
        refine x_ifnull d_ResidualProgram_clauseBelow_6 ?_
        first | refine x_aload_n d_ResidualProgram_clauseBelow_9 rfl rfl ?_ | refine x_aloadN_n d_ResidualProgram_clauseBelow_9 rfl rfl ?_ | refine x_aloadE_n d_ResidualProgram_clauseBelow_9 rfl rfl ?_ | refine x_aloadO_n d_ResidualProgram_clauseBelow_9 rfl rfl ?_
        refine x_getI d_ResidualProgram_clauseBelow_10 f_ResidualProgram_71 rfl (by exact uu.1) ?_
        refine x_iload_n d_ResidualProgram_clauseBelow_13 rfl rfl ?_
        rw [show σ.1 (nc k6) 11 = (tD T k6).1 11 from uu.2.1.2 11 rfl]
        refine x_icmp_ne (tgt := 19) d_ResidualProgram_clauseBelow_14 (by decide) (fun c14 => ?_) (fun c14 => ?_)
        · first | refine x_aload_n d_ResidualProgram_clauseBelow_19 rfl rfl ?_ | refine x_aloadN_n d_ResidualProgram_clauseBelow_19 rfl rfl ?_ | refine x_aloadE_n d_ResidualProgram_clauseBelow_19 rfl rfl ?_ | refine x_aloadO_n d_ResidualProgram_clauseBelow_19 rfl rfl ?_
          refine x_getQ d_ResidualProgram_clauseBelow_20 f_ResidualProgram_74 rfl (by exact uu.1) ((uu.2.2.1.2.2 6 rfl).1) ?_
          first | refine x_astore_n d_ResidualProgram_clauseBelow_23 rfl rfl ?_ | refine x_astoreN_n d_ResidualProgram_clauseBelow_23 rfl rfl ?_ | refine x_astoreE_n d_ResidualProgram_clauseBelow_23 rfl rfl ?_ | refine x_astoreO_n d_ResidualProgram_clauseBelow_23 rfl rfl ?_
          refine x_goto (tgt := 5) d_ResidualProgram_clauseBelow_24 (by decide) ?_
          exact ih _ (fun u hv => by have := hB k6 hu.1 u (Or.inr hv); omega) (by rw [clB, if_neg c14] at h2; exact h2)
        · first | refine x_aload_n d_ResidualProgram_clauseBelow_17 rfl rfl ?_ | refine x_aloadN_n d_ResidualProgram_clauseBelow_17 rfl rfl ?_ | refine x_aloadE_n d_ResidualProgram_clauseBelow_17 rfl rfl ?_ | refine x_aloadO_n d_ResidualProgram_clauseBelow_17 rfl rfl ?_
          exact x_areturn d_ResidualProgram_clauseBelow_18 rfl (by rw [clB, if_pos c14] at h2; rw [← h2] at hQ; exact hQ)
  refine Ct.of (lv := [some (rf G (133 + 5 * n)), some (.int c), none]) (ll := []) rfl rfl (EN.cat (n := 1) ⟨rfl, rfl, trivial⟩ (Nat.le_of_ble_eq_true rfl)) ?_
  first | refine x_aload_n d_ResidualProgram_clauseBelow_0 rfl rfl ?_ | refine x_aloadN_n d_ResidualProgram_clauseBelow_0 rfl rfl ?_ | refine x_aloadE_n d_ResidualProgram_clauseBelow_0 rfl rfl ?_ | refine x_aloadO_n d_ResidualProgram_clauseBelow_0 rfl rfl ?_
  refine x_getQ d_ResidualProgram_clauseBelow_1 f_ResidualProgram_52 rfl (by assumption) ((qq 4 rfl).1) ?_
  first | refine x_astore_n d_ResidualProgram_clauseBelow_4 rfl rfl ?_ | refine x_astoreN_n d_ResidualProgram_clauseBelow_4 rfl rfl ?_ | refine x_astoreE_n d_ResidualProgram_clauseBelow_4 rfl rfl ?_ | refine x_astoreO_n d_ResidualProgram_clauseBelow_4 rfl rfl ?_
  exact lp 48 _ (fun u hu => by have := hB n hn2 u (Or.inl hu); omega) rfl
def rBelow (T : TS) (n : Nat) (x : Int32) : Option Nat := if x = -1 then (tD T n).2.1 4 else clBel T n x
def rNode (T : TS) (s x : Int32) : Option Nat := match tGet T (s - 300) with
  | none => none
  | some n => if (tD T n).1 10 = 0 then none else rBelow T n x
def rRow (m : Nat) : Nat := 136 + 5 * m
def rBody (T : TS) (s x : Int32) : Option Nat := (rNode T s x).map rRow
def rVar (T : TS) (s x k : Int32) : Int32 := match tGet T (s - 300) with
  | none => -1
  | some n => if x = -1 then atI (r100 T n) (1 + k) else if k < pK x then (match clBel T n x with
    | none => -1
    | some m => (tD T m).1 12 + k) else atI (r100 T n) (2 + k - pK x)
theorem rBelow_lt {T : TS} {n : Nat} {x : Int32} {m : Nat} (hB : BW T) (hn : n < tN T) (h : rBelow T n x = some m) : m < tN T := by
  unfold rBelow at h
  split at h
  · exact (hB n hn m (Or.inl h)).2
  · exact clBel_lt hB hn h
set_option maxRecDepth 10000 in
set_option maxHeartbeats 1000000 in
theorem c_ResidualProgram_bodyOf {G : Ctx} {d : Nat} {Γ : List Sh} {σ : Mem} {Q : Option Value → List Sh → Mem → Prop} {T : TS} {s x : Int32}  (hRs : isRes Γ σ) (hT : isTree Γ σ T) (hB : BW T) (hQ : Q (some (ov G (rBody T s x))) Γ σ) : Ct G M_ResidualProgram_bodyOf (d + 1) 0 0 [rf G 385, .int s, .int x] Γ σ Q := by
  obtain ⟨p0, p1, p2, p3⟩ := id hRs
  obtain ⟨-, -, -, ⟨-, t4b⟩, -⟩ := id hT
  refine Ct.of (lv := [some (rf G 385), some (.int s), some (.int x), none, none]) (ll := []) rfl rfl (EN.cat (n := 2) ⟨rfl, rfl, rfl, trivial⟩ (Nat.le_of_ble_eq_true rfl)) ?_
  first | refine x_aload_n d_ResidualProgram_bodyOf_0 rfl rfl ?_ | refine x_aloadN_n d_ResidualProgram_bodyOf_0 rfl rfl ?_ | refine x_aloadE_n d_ResidualProgram_bodyOf_0 rfl rfl ?_ | refine x_aloadO_n d_ResidualProgram_bodyOf_0 rfl rfl ?_
  refine x_getR d_ResidualProgram_bodyOf_1 f_ResidualProgram_9 rfl (by assumption) (by assumption) ?_
  refine x_iload_n d_ResidualProgram_bodyOf_4 rfl rfl ?_
  refine x_sipush (v := 300) d_ResidualProgram_bodyOf_5 (by decide) ?_
  refine x_isub d_ResidualProgram_bodyOf_8 ?_
  refine x_callV1 d_ResidualProgram_bodyOf_9 k_Tree_get l_ResidualProgram_15 v_Tree_get rfl s_Tree_get (by exact hT.1) RoomE.m (Nat.le_of_ble_eq_true rfl) (c_Tree_get hT ?_)
  rcases hg : tGet T (s - 300) with _ | n
  · show Wq _ _ _ _ _ _ _ _ [.null] _ _
    first | refine x_astore_n d_ResidualProgram_bodyOf_12 rfl rfl ?_ | refine x_astoreN_n d_ResidualProgram_bodyOf_12 rfl rfl ?_ | refine x_astoreE_n d_ResidualProgram_bodyOf_12 rfl rfl ?_ | refine x_astoreO_n d_ResidualProgram_bodyOf_12 rfl rfl ?_
    first | refine x_aload_n d_ResidualProgram_bodyOf_13 rfl rfl ?_ | refine x_aloadN_n d_ResidualProgram_bodyOf_13 rfl rfl ?_ | refine x_aloadE_n d_ResidualProgram_bodyOf_13 rfl rfl ?_ | refine x_aloadO_n d_ResidualProgram_bodyOf_13 rfl rfl ?_
    refine x_ifnullN (tgt := 24) d_ResidualProgram_bodyOf_14 (by decide) ?_
    refine x_null d_ResidualProgram_bodyOf_24 ?_
    exact x_areturnN d_ResidualProgram_bodyOf_25 rfl (by rw [rBody, rNode, hg] at hQ; exact hQ)
  · have hn2 := tGet_lt hg
    have nn := hT.nd (show n < 48 by omega)
    show Wq _ _ _ _ _ _ _ _ [rf G (133 + 5 * n)] _ _
    first | refine x_astore_n d_ResidualProgram_bodyOf_12 rfl rfl ?_ | refine x_astoreN_n d_ResidualProgram_bodyOf_12 rfl rfl ?_ | refine x_astoreE_n d_ResidualProgram_bodyOf_12 rfl rfl ?_ | refine x_astoreO_n d_ResidualProgram_bodyOf_12 rfl rfl ?_
    first | refine x_aload_n d_ResidualProgram_bodyOf_13 rfl rfl ?_ | refine x_aloadN_n d_ResidualProgram_bodyOf_13 rfl rfl ?_ | refine x_aloadE_n d_ResidualProgram_bodyOf_13 rfl rfl ?_ | refine x_aloadO_n d_ResidualProgram_bodyOf_13 rfl rfl ?_
    refine x_ifnull d_ResidualProgram_bodyOf_14 ?_
    first | refine x_aload_n d_ResidualProgram_bodyOf_17 rfl rfl ?_ | refine x_aloadN_n d_ResidualProgram_bodyOf_17 rfl rfl ?_ | refine x_aloadE_n d_ResidualProgram_bodyOf_17 rfl rfl ?_ | refine x_aloadO_n d_ResidualProgram_bodyOf_17 rfl rfl ?_
    refine x_getI d_ResidualProgram_bodyOf_18 f_ResidualProgram_35 rfl (by exact nn.1) ?_
    rw [show σ.1 (133 + 5 * n) 10 = (tD T n).1 10 from nn.2.1.2 10 rfl]
    refine x_if_ne (tgt := 26) d_ResidualProgram_bodyOf_21 (by decide) (fun c21 => ?_) (fun c21 => ?_)
    · have hfn : ¬ (tD T n).1 10 = 0 := c21
      have k43 : Wq G M_ResidualProgram_bodyOf (Em G (d + 1) 0 0 Q) 0 0 43 [some (rf G 385), some (.int s), some (.int x), some (rf G (133 + 5 * n)), none] [] [ov G ((rBelow T n x).map nc)] Γ σ := by
        rcases hb : rBelow T n x with _ | m
        · show Wq _ _ _ _ _ _ _ _ [.null] _ _
          first | refine x_astore d_ResidualProgram_bodyOf_43 rfl ?_ | refine x_astoreN d_ResidualProgram_bodyOf_43 rfl ?_ | refine x_astoreE d_ResidualProgram_bodyOf_43 rfl ?_ | refine x_astoreO d_ResidualProgram_bodyOf_43 rfl ?_
          first | refine x_aload d_ResidualProgram_bodyOf_45 rfl ?_ | refine x_aloadN d_ResidualProgram_bodyOf_45 rfl ?_ | refine x_aloadE d_ResidualProgram_bodyOf_45 rfl ?_ | refine x_aloadO d_ResidualProgram_bodyOf_45 rfl ?_
          refine x_ifnonnullN d_ResidualProgram_bodyOf_47 ?_
          refine x_null d_ResidualProgram_bodyOf_50 ?_
          refine x_goto (tgt := 59) d_ResidualProgram_bodyOf_51 (by decide) ?_
          exact x_areturnN d_ResidualProgram_bodyOf_59 rfl (by rw [rBody, rNode, hg] at hQ; simp only [if_neg hfn, hb] at hQ; exact hQ)
        · have hm := rBelow_lt hB hn2 hb
          have mm := hT.nd (show m < 48 by omega)
          show Wq _ _ _ _ _ _ _ _ [rf G (133 + 5 * m)] _ _
          first | refine x_astore d_ResidualProgram_bodyOf_43 rfl ?_ | refine x_astoreN d_ResidualProgram_bodyOf_43 rfl ?_ | refine x_astoreE d_ResidualProgram_bodyOf_43 rfl ?_ | refine x_astoreO d_ResidualProgram_bodyOf_43 rfl ?_
          first | refine x_aload d_ResidualProgram_bodyOf_45 rfl ?_ | refine x_aloadN d_ResidualProgram_bodyOf_45 rfl ?_ | refine x_aloadE d_ResidualProgram_bodyOf_45 rfl ?_ | refine x_aloadO d_ResidualProgram_bodyOf_45 rfl ?_
          refine x_ifnonnull (tgt := 54) d_ResidualProgram_bodyOf_47 (by decide) ?_
          first | refine x_aload d_ResidualProgram_bodyOf_54 rfl ?_ | refine x_aloadN d_ResidualProgram_bodyOf_54 rfl ?_ | refine x_aloadE d_ResidualProgram_bodyOf_54 rfl ?_ | refine x_aloadO d_ResidualProgram_bodyOf_54 rfl ?_
          refine x_getR d_ResidualProgram_bodyOf_56 f_ResidualProgram_21 rfl (by exact mm.1) (mm.2.2.1.2.1) ?_
          exact x_areturn d_ResidualProgram_bodyOf_59 rfl (by rw [rBody, rNode, hg] at hQ; simp only [if_neg hfn, hb] at hQ; exact hQ)
      refine x_iload_n d_ResidualProgram_bodyOf_26 rfl rfl ?_
      refine x_iconst (v := -1) d_ResidualProgram_bodyOf_27 (by decide) ?_
      refine x_icmp_ne (tgt := 38) d_ResidualProgram_bodyOf_28 (by decide) (fun c28 => ?_) (fun c28 => ?_)
      · first | refine x_aload_n d_ResidualProgram_bodyOf_38 rfl rfl ?_ | refine x_aloadN_n d_ResidualProgram_bodyOf_38 rfl rfl ?_ | refine x_aloadE_n d_ResidualProgram_bodyOf_38 rfl rfl ?_ | refine x_aloadO_n d_ResidualProgram_bodyOf_38 rfl rfl ?_
        refine x_iload_n d_ResidualProgram_bodyOf_39 rfl rfl ?_
        refine x_callS2 d_ResidualProgram_bodyOf_40 k_ResidualProgram_clauseBelow l_ResidualProgram_56 z_ResidualProgram_clauseBelow RoomE.m (Nat.le_of_ble_eq_true rfl) (c_ResidualProgram_clauseBelow hT hB hn2 ?_)
        first | (rw [rBelow, if_pos c28] at k43; exact k43) | (rw [rBelow, if_neg c28] at k43; exact k43)
      · first | refine x_aload_n d_ResidualProgram_bodyOf_31 rfl rfl ?_ | refine x_aloadN_n d_ResidualProgram_bodyOf_31 rfl rfl ?_ | refine x_aloadE_n d_ResidualProgram_bodyOf_31 rfl rfl ?_ | refine x_aloadO_n d_ResidualProgram_bodyOf_31 rfl rfl ?_
        refine x_getQ d_ResidualProgram_bodyOf_32 f_ResidualProgram_52 rfl (by exact nn.1) ((nn.2.2.1.2.2 4 rfl).1) ?_
        refine x_goto (tgt := 43) d_ResidualProgram_bodyOf_35 (by decide) ?_
        first | (rw [rBelow, if_pos c28] at k43; exact k43) | (rw [rBelow, if_neg c28] at k43; exact k43)
    · refine x_null d_ResidualProgram_bodyOf_24 ?_
      exact x_areturnN d_ResidualProgram_bodyOf_25 rfl (by rw [rBody, rNode, hg] at hQ; simp only [if_pos (show (tD T n).1 10 = 0 from c21)] at hQ; exact hQ)
set_option maxRecDepth 10000 in
set_option maxHeartbeats 1000000 in
theorem c_ResidualProgram_variableOf {G : Ctx} {d : Nat} {Γ : List Sh} {σ : Mem} {Q : Option Value → List Sh → Mem → Prop} {T : TS} {s x k : Int32}  (hRs : isRes Γ σ) (hT : isTree Γ σ T) (hB : BW T) (hQ : Q (some (.int (rVar T s x k))) Γ σ) : Ct G M_ResidualProgram_variableOf (d + 1) 0 0 [rf G 385, .int s, .int x, .int k] Γ σ Q := by
  obtain ⟨p0, p1, p2, p3⟩ := id hRs
  obtain ⟨-, -, -, ⟨-, t4b⟩, -⟩ := id hT
  refine Ct.of (lv := [some (rf G 385), some (.int s), some (.int x), some (.int k), none, none, none]) (ll := []) rfl rfl (EN.cat (n := 3) ⟨rfl, rfl, rfl, rfl, trivial⟩ (Nat.le_of_ble_eq_true rfl)) ?_
  first | refine x_aload_n d_ResidualProgram_variableOf_0 rfl rfl ?_ | refine x_aloadN_n d_ResidualProgram_variableOf_0 rfl rfl ?_ | refine x_aloadE_n d_ResidualProgram_variableOf_0 rfl rfl ?_ | refine x_aloadO_n d_ResidualProgram_variableOf_0 rfl rfl ?_
  refine x_getR d_ResidualProgram_variableOf_1 f_ResidualProgram_9 rfl (by assumption) (by assumption) ?_
  refine x_iload_n d_ResidualProgram_variableOf_4 rfl rfl ?_
  refine x_sipush (v := 300) d_ResidualProgram_variableOf_5 (by decide) ?_
  refine x_isub d_ResidualProgram_variableOf_8 ?_
  refine x_callV1 d_ResidualProgram_variableOf_9 k_Tree_get l_ResidualProgram_15 v_Tree_get rfl s_Tree_get (by exact hT.1) RoomE.m (Nat.le_of_ble_eq_true rfl) (c_Tree_get hT ?_)
  rcases hg : tGet T (s - 300) with _ | n
  · show Wq _ _ _ _ _ _ _ _ [.null] _ _
    first | refine x_astore d_ResidualProgram_variableOf_12 rfl ?_ | refine x_astoreN d_ResidualProgram_variableOf_12 rfl ?_ | refine x_astoreE d_ResidualProgram_variableOf_12 rfl ?_ | refine x_astoreO d_ResidualProgram_variableOf_12 rfl ?_
    first | refine x_aload d_ResidualProgram_variableOf_14 rfl ?_ | refine x_aloadN d_ResidualProgram_variableOf_14 rfl ?_ | refine x_aloadE d_ResidualProgram_variableOf_14 rfl ?_ | refine x_aloadO d_ResidualProgram_variableOf_14 rfl ?_
    refine x_ifnonnullN d_ResidualProgram_variableOf_16 ?_
    refine x_iconst (v := -1) d_ResidualProgram_variableOf_19 (by decide) ?_
    exact x_ireturn d_ResidualProgram_variableOf_20 rfl rfl (by rw [rVar, hg] at hQ; exact hQ)
  · have hn2 := tGet_lt hg
    have nn := hT.nd (show n < 48 by omega)
    show Wq _ _ _ _ _ _ _ _ [rf G (133 + 5 * n)] _ _
    first | refine x_astore d_ResidualProgram_variableOf_12 rfl ?_ | refine x_astoreN d_ResidualProgram_variableOf_12 rfl ?_ | refine x_astoreE d_ResidualProgram_variableOf_12 rfl ?_ | refine x_astoreO d_ResidualProgram_variableOf_12 rfl ?_
    first | refine x_aload d_ResidualProgram_variableOf_14 rfl ?_ | refine x_aloadN d_ResidualProgram_variableOf_14 rfl ?_ | refine x_aloadE d_ResidualProgram_variableOf_14 rfl ?_ | refine x_aloadO d_ResidualProgram_variableOf_14 rfl ?_
    refine x_ifnonnull (tgt := 21) d_ResidualProgram_variableOf_16 (by decide) ?_
    refine x_iload_n d_ResidualProgram_variableOf_21 rfl rfl ?_
    refine x_iconst (v := -1) d_ResidualProgram_variableOf_22 (by decide) ?_
    refine x_icmp_ne (tgt := 38) d_ResidualProgram_variableOf_23 (by decide) (fun c23 => ?_) (fun c23 => ?_)
    · refine x_iload_n d_ResidualProgram_variableOf_38 rfl rfl ?_
      refine x_callSN1 d_ResidualProgram_variableOf_39 k_SD_partsOfConstructor ln_ResidualProgram_64 z_SD_partsOfConstructor RoomE.m (Nat.le_of_ble_eq_true rfl) (c_SD_partsOfConstructor ?_)
      refine x_istore d_ResidualProgram_variableOf_42 rfl ?_
      refine x_iload_n d_ResidualProgram_variableOf_44 rfl rfl ?_
      refine x_iload d_ResidualProgram_variableOf_45 rfl ?_
      refine x_icmp_lt (tgt := 65) d_ResidualProgram_variableOf_47 (by decide) (fun c47 => ?_) (fun c47 => ?_)
      · first | refine x_aload d_ResidualProgram_variableOf_65 rfl ?_ | refine x_aloadN d_ResidualProgram_variableOf_65 rfl ?_ | refine x_aloadE d_ResidualProgram_variableOf_65 rfl ?_ | refine x_aloadO d_ResidualProgram_variableOf_65 rfl ?_
        refine x_iload_n d_ResidualProgram_variableOf_67 rfl rfl ?_
        refine x_callS2 d_ResidualProgram_variableOf_68 k_ResidualProgram_clauseBelow l_ResidualProgram_56 z_ResidualProgram_clauseBelow RoomE.m (Nat.le_of_ble_eq_true rfl) (c_ResidualProgram_clauseBelow hT hB hn2 ?_)
        rcases hb : clBel T n x with _ | m
        · show Wq _ _ _ _ _ _ _ _ [.null] _ _
          first | refine x_astore d_ResidualProgram_variableOf_71 rfl ?_ | refine x_astoreN d_ResidualProgram_variableOf_71 rfl ?_ | refine x_astoreE d_ResidualProgram_variableOf_71 rfl ?_ | refine x_astoreO d_ResidualProgram_variableOf_71 rfl ?_
          first | refine x_aload d_ResidualProgram_variableOf_73 rfl ?_ | refine x_aloadN d_ResidualProgram_variableOf_73 rfl ?_ | refine x_aloadE d_ResidualProgram_variableOf_73 rfl ?_ | refine x_aloadO d_ResidualProgram_variableOf_73 rfl ?_
          refine x_ifnonnullN d_ResidualProgram_variableOf_75 ?_
          refine x_iconst (v := -1) d_ResidualProgram_variableOf_78 (by decide) ?_
          refine x_goto (tgt := 89) d_ResidualProgram_variableOf_79 (by decide) ?_
          exact x_ireturn d_ResidualProgram_variableOf_89 rfl rfl (by rw [rVar, hg] at hQ; simp only [if_neg c23, if_pos c47, hb] at hQ; exact hQ)
        · have hm := clBel_lt hB hn2 hb
          have mm := hT.nd (show m < 48 by omega)
          show Wq _ _ _ _ _ _ _ _ [rf G (133 + 5 * m)] _ _
          first | refine x_astore d_ResidualProgram_variableOf_71 rfl ?_ | refine x_astoreN d_ResidualProgram_variableOf_71 rfl ?_ | refine x_astoreE d_ResidualProgram_variableOf_71 rfl ?_ | refine x_astoreO d_ResidualProgram_variableOf_71 rfl ?_
          first | refine x_aload d_ResidualProgram_variableOf_73 rfl ?_ | refine x_aloadN d_ResidualProgram_variableOf_73 rfl ?_ | refine x_aloadE d_ResidualProgram_variableOf_73 rfl ?_ | refine x_aloadO d_ResidualProgram_variableOf_73 rfl ?_
          refine x_ifnonnull (tgt := 82) d_ResidualProgram_variableOf_75 (by decide) ?_
          first | refine x_aload d_ResidualProgram_variableOf_82 rfl ?_ | refine x_aloadN d_ResidualProgram_variableOf_82 rfl ?_ | refine x_aloadE d_ResidualProgram_variableOf_82 rfl ?_ | refine x_aloadO d_ResidualProgram_variableOf_82 rfl ?_
          refine x_getI d_ResidualProgram_variableOf_84 f_ResidualProgram_67 rfl (by exact mm.1) ?_
          rw [show σ.1 (133 + 5 * m) 12 = (tD T m).1 12 from mm.2.1.2 12 rfl]
          refine x_iload_n d_ResidualProgram_variableOf_87 rfl rfl ?_
          refine x_iadd d_ResidualProgram_variableOf_88 ?_
          exact x_ireturn d_ResidualProgram_variableOf_89 rfl rfl (by rw [rVar, hg] at hQ; simp only [if_neg c23, if_pos c47, hb] at hQ; exact hQ)
      · first | refine x_aload d_ResidualProgram_variableOf_50 rfl ?_ | refine x_aloadN d_ResidualProgram_variableOf_50 rfl ?_ | refine x_aloadE d_ResidualProgram_variableOf_50 rfl ?_ | refine x_aloadO d_ResidualProgram_variableOf_50 rfl ?_
        refine x_getR d_ResidualProgram_variableOf_52 f_ResidualProgram_21 rfl (by exact nn.1) (nn.2.2.1.2.1) ?_
        refine x_iconst (v := 2) d_ResidualProgram_variableOf_55 (by decide) ?_
        refine x_iload_n d_ResidualProgram_variableOf_56 rfl rfl ?_
        refine x_iadd d_ResidualProgram_variableOf_57 ?_
        refine x_iload d_ResidualProgram_variableOf_58 rfl ?_
        refine x_isub d_ResidualProgram_variableOf_60 ?_
        refine x_callV1 d_ResidualProgram_variableOf_61 k_Row_at l_ResidualProgram_60 v_Row_at rfl s_Row_at (by exact nn.2.2.2.2.1) RoomE.m (Nat.le_of_ble_eq_true rfl) (c_Row_at nn.2.2.2.2 ?_)
        exact x_ireturn d_ResidualProgram_variableOf_64 rfl rfl (by rw [rVar, hg] at hQ; simp only [if_neg c23, if_neg c47] at hQ; exact hQ)
    · first | refine x_aload d_ResidualProgram_variableOf_26 rfl ?_ | refine x_aloadN d_ResidualProgram_variableOf_26 rfl ?_ | refine x_aloadE d_ResidualProgram_variableOf_26 rfl ?_ | refine x_aloadO d_ResidualProgram_variableOf_26 rfl ?_
      refine x_getR d_ResidualProgram_variableOf_28 f_ResidualProgram_21 rfl (by exact nn.1) (nn.2.2.1.2.1) ?_
      refine x_iconst (v := 1) d_ResidualProgram_variableOf_31 (by decide) ?_
      refine x_iload_n d_ResidualProgram_variableOf_32 rfl rfl ?_
      refine x_iadd d_ResidualProgram_variableOf_33 ?_
      refine x_callV1 d_ResidualProgram_variableOf_34 k_Row_at l_ResidualProgram_60 v_Row_at rfl s_Row_at (by exact nn.2.2.2.2.1) RoomE.m (Nat.le_of_ble_eq_true rfl) (c_Row_at nn.2.2.2.2 ?_)
      exact x_ireturn d_ResidualProgram_variableOf_37 rfl rfl (by rw [rVar, hg] at hQ; simp only [if_pos c23] at hQ; exact hQ)
