/-! SuperDriver$Tree -/
def tGr (T : TS) : TS := (T.1, T.2.1, true, T.2.2.2)
def tGet (T : TS) (i : Int32) : Option Nat := if i < 0 then none else if i.toNatClampNeg < tN T then some i.toNatClampNeg else none
theorem tGet_nI {T : TS} {k : Nat} (hk : k < 2 ^ 31) : tGet T (nI k) = if k < tN T then some k else none := by
  unfold tGet
  rw [if_neg (nI_nneg k hk), nI_clamp hk]
theorem tGet_lt {T : TS} {i : Int32} {n : Nat} (h : tGet T i = some n) : n < tN T := by
  unfold tGet at h
  split at h
  · cases h
  · split at h
    · cases h; assumption
    · cases h
def tNew (T : TS) : TS × Int32 := if tV T < 100 then ((T.1, T.2.1 + 1, T.2.2.1, T.2.2.2), nI (tV T)) else (tGr T, -1)
def tClr (T : TS) : TS := (0, 8, false, T.2.2.2)
theorem isTree.int {Γ : List Sh} {σ σ' : Mem} {T T' : TS} (h : isTree Γ σ T) (hf : Fr [131] σ σ') (hr : σ'.2.1 131 0 = some 132) (h1 : σ'.1 131 1 = nI (tN T') ∧ tN T' ≤ 48) (h2 : σ'.1 131 2 = nI (tV T') ∧ tV T' ≤ 100) (h3 : σ'.1 131 3 = bI (tG T')) (h4 : tD T' = tD T) : isTree Γ σ' T' := by
  obtain ⟨a, b, c, d, e, f, g⟩ := h
  refine ⟨a, b, hr, h1, h2, h3, fun n hn => ⟨by rw [(hf 132 (by simp)).2.1]; exact (g n hn).1, ?_⟩⟩
  rw [h4]
  exact (g n hn).2.P (hf.P (T := fun a => a = 131) (by simp)) (fun w hw hw2 => by unfold inN at hw; omega)
theorem Fr.T {σ σ' : Mem} {S : List Nat} (h : Fr S σ σ') (hs : ∀ a ∈ S, inT a) : FrP inT σ σ' := h.P hs
theorem i131 : inT 131 := ⟨by omega, by omega⟩
set_option maxRecDepth 10000 in
set_option maxHeartbeats 1000000 in
theorem c_Tree_count {G : Ctx} {d : Nat} {Γ : List Sh} {σ : Mem} {Q : Option Value → List Sh → Mem → Prop} {T : TS}  (hT : isTree Γ σ T) (hQ : Q (some (.int (nI (tN T)))) Γ σ) : Ct G M_Tree_count d 0 0 [rf G 131] Γ σ Q := by
  obtain ⟨t1, t2, t3, ⟨t4, t4b⟩, ⟨t5, t5b⟩, t6, t7⟩ := id hT
  refine Ct.of (lv := [some (rf G 131)]) (ll := []) rfl rfl (EN.cat (n := 0) ⟨rfl, trivial⟩ (Nat.le_of_ble_eq_true rfl)) ?_
  first | refine x_aload_n d_Tree_count_0 rfl rfl ?_ | refine x_aloadN_n d_Tree_count_0 rfl rfl ?_ | refine x_aloadE_n d_Tree_count_0 rfl rfl ?_ | refine x_aloadO_n d_Tree_count_0 rfl rfl ?_
  refine x_getI d_Tree_count_1 f_Tree_17 rfl (by assumption) ?_
  exact x_ireturn d_Tree_count_4 rfl (by first | rfl | decide) (by rw [t4]; exact hQ)
set_option maxRecDepth 10000 in
set_option maxHeartbeats 1000000 in
theorem c_Tree_isTooGreat {G : Ctx} {d : Nat} {Γ : List Sh} {σ : Mem} {Q : Option Value → List Sh → Mem → Prop} {T : TS}  (hT : isTree Γ σ T) (hQ : Q (some (.int (bI (tG T)))) Γ σ) : Ct G M_Tree_isTooGreat d 0 0 [rf G 131] Γ σ Q := by
  obtain ⟨t1, t2, t3, ⟨t4, t4b⟩, ⟨t5, t5b⟩, t6, t7⟩ := id hT
  refine Ct.of (lv := [some (rf G 131)]) (ll := []) rfl rfl (EN.cat (n := 0) ⟨rfl, trivial⟩ (Nat.le_of_ble_eq_true rfl)) ?_
  first | refine x_aload_n d_Tree_isTooGreat_0 rfl rfl ?_ | refine x_aloadN_n d_Tree_isTooGreat_0 rfl rfl ?_ | refine x_aloadE_n d_Tree_isTooGreat_0 rfl rfl ?_ | refine x_aloadO_n d_Tree_isTooGreat_0 rfl rfl ?_
  refine x_getI d_Tree_isTooGreat_1 f_Tree_24 rfl (by assumption) ?_
  rw [t6]
  exact x_ireturn d_Tree_isTooGreat_4 rfl (bI_01 _) hQ
set_option maxRecDepth 10000 in
set_option maxHeartbeats 1000000 in
theorem c_Tree_clear {G : Ctx} {d : Nat} {Γ : List Sh} {σ : Mem} {Q : Option Value → List Sh → Mem → Prop} {T : TS}  (hT : isTree Γ σ T) (hQ : ∀ σ', isTree Γ σ' (tClr T) → Fr [131] σ σ' → Q none Γ σ') : Ct G M_Tree_clear d 0 0 [rf G 131] Γ σ Q := by
  obtain ⟨t1, t2, t3, ⟨t4, t4b⟩, ⟨t5, t5b⟩, t6, t7⟩ := id hT
  refine Ct.of (lv := [some (rf G 131)]) (ll := []) rfl rfl (EN.cat (n := 0) ⟨rfl, trivial⟩ (Nat.le_of_ble_eq_true rfl)) ?_
  first | refine x_aload_n d_Tree_clear_0 rfl rfl ?_ | refine x_aloadN_n d_Tree_clear_0 rfl rfl ?_ | refine x_aloadE_n d_Tree_clear_0 rfl rfl ?_ | refine x_aloadO_n d_Tree_clear_0 rfl rfl ?_
  refine x_iconst (v := 0) d_Tree_clear_1 (by decide) ?_
  refine x_putI d_Tree_clear_2 (w_Tree_m_17 _) rfl (by first | rfl | decide) (by first | rfl | decide) (by assumption) ?_
  first | refine x_aload_n d_Tree_clear_5 rfl rfl ?_ | refine x_aloadN_n d_Tree_clear_5 rfl rfl ?_ | refine x_aloadE_n d_Tree_clear_5 rfl rfl ?_ | refine x_aloadO_n d_Tree_clear_5 rfl rfl ?_
  refine x_bipush (v := 8) d_Tree_clear_6 (by decide) ?_
  refine x_putI d_Tree_clear_8 (w_Tree_m_21 _) rfl (by first | rfl | decide) (by first | rfl | decide) (by assumption) ?_
  first | refine x_aload_n d_Tree_clear_11 rfl rfl ?_ | refine x_aloadN_n d_Tree_clear_11 rfl rfl ?_ | refine x_aloadE_n d_Tree_clear_11 rfl rfl ?_ | refine x_aloadO_n d_Tree_clear_11 rfl rfl ?_
  refine x_iconst (v := 0) d_Tree_clear_12 (by decide) ?_
  refine x_putI d_Tree_clear_13 (w_Tree_m_24 _) rfl (by first | rfl | decide) (by first | rfl | decide) (by assumption) ?_
  exact x_return d_Tree_clear_16 rfl (by
    have ff : Fr [131] σ (wI (wI (wI σ 131 1 0) 131 2 8) 131 3 0) := ((Fr.rf.wI (by simp)).wI (by simp)).wI (by simp)
    refine hQ _ (hT.int ff t3 ⟨?_, Nat.zero_le _⟩ ⟨?_, show 8 ≤ 100 by decide⟩ ?_ rfl) ff
    · rw [wI_j (by decide), wI_j (by decide), wI_s]; rfl
    · rw [wI_j (by decide), wI_s]; rfl
    · rw [wI_s]; rfl)
set_option maxRecDepth 10000 in
set_option maxHeartbeats 1000000 in
theorem c_Tree_get {G : Ctx} {d : Nat} {Γ : List Sh} {σ : Mem} {Q : Option Value → List Sh → Mem → Prop} {T : TS} {i : Int32}  (hT : isTree Γ σ T) (hQ : Q (some (ov G ((tGet T i).map nc))) Γ σ) : Ct G M_Tree_get d 0 0 [rf G 131, .int i] Γ σ Q := by
  obtain ⟨t1, t2, t3, ⟨t4, t4b⟩, ⟨t5, t5b⟩, t6, t7⟩ := id hT
  refine Ct.of (lv := [some (rf G 131), some (.int i)]) (ll := []) rfl rfl (EN.cat (n := 0) ⟨rfl, rfl, trivial⟩ (Nat.le_of_ble_eq_true rfl)) ?_
  refine x_iload_n d_Tree_get_0 rfl rfl ?_
  refine x_if_lt (tgt := 27) d_Tree_get_1 (by decide) (fun c1 => ?_) (fun c1 => ?_)
  · refine x_null d_Tree_get_27 ?_
    first
    | exact x_areturnN d_Tree_get_28 rfl (by
        first
        | (rw [tGet, if_pos c1] at hQ; exact hQ)
        | (rw [tGet, if_neg c1, if_neg (by rw [t4] at c9; have := (clamp_lt c1 (by omega)).mp c9; omega)] at hQ; exact hQ)
        | (rw [tGet, if_neg c1, if_neg (by have := (clamp_lt (n := 48) c1 (by omega)).mp c15; omega)] at hQ; exact hQ))
    | exact x_areturn d_Tree_get_28 rfl (by rw [tGet, if_neg c1, if_pos hlt] at hQ; exact hQ)
  · refine x_iload_n d_Tree_get_4 rfl rfl ?_
    first | refine x_aload_n d_Tree_get_5 rfl rfl ?_ | refine x_aloadN_n d_Tree_get_5 rfl rfl ?_ | refine x_aloadE_n d_Tree_get_5 rfl rfl ?_ | refine x_aloadO_n d_Tree_get_5 rfl rfl ?_
    refine x_getI d_Tree_get_6 f_Tree_17 rfl (by assumption) ?_
    refine x_icmp_ge (tgt := 27) d_Tree_get_9 (by decide) (fun c9 => ?_) (fun c9 => ?_)
    · refine x_null d_Tree_get_27 ?_
      first
      | exact x_areturnN d_Tree_get_28 rfl (by
          first
          | (rw [tGet, if_pos c1] at hQ; exact hQ)
          | (rw [tGet, if_neg c1, if_neg (by rw [t4] at c9; have := (clamp_lt c1 (by omega)).mp c9; omega)] at hQ; exact hQ)
          | (rw [tGet, if_neg c1, if_neg (by have := (clamp_lt (n := 48) c1 (by omega)).mp c15; omega)] at hQ; exact hQ))
      | exact x_areturn d_Tree_get_28 rfl (by rw [tGet, if_neg c1, if_pos hlt] at hQ; exact hQ)
    · refine x_iload_n d_Tree_get_12 rfl rfl ?_
      refine x_bipush (v := 48) d_Tree_get_13 (by decide) ?_
      refine x_icmp_ge (tgt := 27) d_Tree_get_15 (by decide) (fun c15 => ?_) (fun c15 => ?_)
      · refine x_null d_Tree_get_27 ?_
        first
        | exact x_areturnN d_Tree_get_28 rfl (by
            first
            | (rw [tGet, if_pos c1] at hQ; exact hQ)
            | (rw [tGet, if_neg c1, if_neg (by rw [t4] at c9; have := (clamp_lt c1 (by omega)).mp c9; omega)] at hQ; exact hQ)
            | (rw [tGet, if_neg c1, if_neg (by have := (clamp_lt (n := 48) c1 (by omega)).mp c15; omega)] at hQ; exact hQ))
        | exact x_areturn d_Tree_get_28 rfl (by rw [tGet, if_neg c1, if_pos hlt] at hQ; exact hQ)
      · have hlt : i.toNatClampNeg < tN T := by rw [t4] at c9; exact Nat.not_le.mp fun z => c9 ((clamp_lt c1 (by omega)).mpr z)
        first | refine x_aload_n d_Tree_get_18 rfl rfl ?_ | refine x_aloadN_n d_Tree_get_18 rfl rfl ?_ | refine x_aloadE_n d_Tree_get_18 rfl rfl ?_ | refine x_aloadO_n d_Tree_get_18 rfl rfl ?_
        refine x_getR d_Tree_get_19 f_Tree_11 rfl (by assumption) (by assumption) ?_
        refine x_iload_n d_Tree_get_22 rfl rfl ?_
        refine x_aald d_Tree_get_23 (by assumption) (by decide) (fun z => z.elim c1 (fun z => absurd z (by omega))) ((t7 _ (by omega)).1) ?_
        refine x_goto (tgt := 28) d_Tree_get_24 (by decide) ?_
        first
        | exact x_areturnN d_Tree_get_28 rfl (by
            first
            | (rw [tGet, if_pos c1] at hQ; exact hQ)
            | (rw [tGet, if_neg c1, if_neg (by rw [t4] at c9; have := (clamp_lt c1 (by omega)).mp c9; omega)] at hQ; exact hQ)
            | (rw [tGet, if_neg c1, if_neg (by have := (clamp_lt (n := 48) c1 (by omega)).mp c15; omega)] at hQ; exact hQ))
        | exact x_areturn d_Tree_get_28 rfl (by rw [tGet, if_neg c1, if_pos hlt] at hQ; exact hQ)
set_option maxRecDepth 10000 in
set_option maxHeartbeats 1000000 in
theorem c_Tree_newVariable {G : Ctx} {d : Nat} {Γ : List Sh} {σ : Mem} {Q : Option Value → List Sh → Mem → Prop} {T : TS}  (hT : isTree Γ σ T) (hQ : ∀ σ', isTree Γ σ' (tNew T).1 → Fr [131] σ σ' → Q (some (.int (tNew T).2)) Γ σ') : Ct G M_Tree_newVariable d 0 0 [rf G 131] Γ σ Q := by
  obtain ⟨t1, t2, t3, ⟨t4, t4b⟩, ⟨t5, t5b⟩, t6, t7⟩ := id hT
  refine Ct.of (lv := [some (rf G 131)]) (ll := []) rfl rfl (EN.cat (n := 0) ⟨rfl, trivial⟩ (Nat.le_of_ble_eq_true rfl)) ?_
  first | refine x_aload_n d_Tree_newVariable_0 rfl rfl ?_ | refine x_aloadN_n d_Tree_newVariable_0 rfl rfl ?_ | refine x_aloadE_n d_Tree_newVariable_0 rfl rfl ?_ | refine x_aloadO_n d_Tree_newVariable_0 rfl rfl ?_
  refine x_getI d_Tree_newVariable_1 f_Tree_21 rfl (by assumption) ?_
  refine x_bipush (v := 100) d_Tree_newVariable_4 (by decide) ?_
  refine x_icmp_lt (tgt := 16) d_Tree_newVariable_6 (by decide) (fun c6 => ?_) (fun c6 => ?_)
  · first | refine x_aload_n d_Tree_newVariable_16 rfl rfl ?_ | refine x_aloadN_n d_Tree_newVariable_16 rfl rfl ?_ | refine x_aloadE_n d_Tree_newVariable_16 rfl rfl ?_ | refine x_aloadO_n d_Tree_newVariable_16 rfl rfl ?_
    refine x_dup d_Tree_newVariable_17 rfl ?_
    refine x_getI d_Tree_newVariable_18 f_Tree_21 rfl (by assumption) ?_
    refine x_iconst (v := 1) d_Tree_newVariable_21 (by decide) ?_
    refine x_iadd d_Tree_newVariable_22 ?_
    refine x_putI d_Tree_newVariable_23 (w_Tree_m_21 _) rfl (by first | rfl | decide) (by first | rfl | decide) (by assumption) ?_
    first | refine x_aload_n d_Tree_newVariable_26 rfl rfl ?_ | refine x_aloadN_n d_Tree_newVariable_26 rfl rfl ?_ | refine x_aloadE_n d_Tree_newVariable_26 rfl rfl ?_ | refine x_aloadO_n d_Tree_newVariable_26 rfl rfl ?_
    refine x_getI d_Tree_newVariable_27 f_Tree_21 rfl (by assumption) ?_
    refine x_iconst (v := 1) d_Tree_newVariable_30 (by decide) ?_
    refine x_isub d_Tree_newVariable_31 ?_
    exact x_ireturn d_Tree_newVariable_32 rfl rfl (by
      have hlt : tV T < 100 := by rw [t5] at c6; exact (nI_ltI (b := 100) (by omega) (by decide)).mp c6
      have ff : Fr [131] σ (wI σ 131 2 (σ.1 131 2 + 1)) := Fr.rf.wI (by simp)
      rw [tNew, if_pos hlt] at hQ
      rw [wI_s, Int32.add_sub_cancel, t5]
      rw [t5] at ff
      exact hQ _ (hT.int ff t3 ⟨by rw [wI_j (by decide)]; exact t4, t4b⟩ ⟨by rw [wI_s, nI_1]; rfl, hlt⟩ (by rw [wI_j (by decide)]; exact t6) rfl) ff)
  · first | refine x_aload_n d_Tree_newVariable_9 rfl rfl ?_ | refine x_aloadN_n d_Tree_newVariable_9 rfl rfl ?_ | refine x_aloadE_n d_Tree_newVariable_9 rfl rfl ?_ | refine x_aloadO_n d_Tree_newVariable_9 rfl rfl ?_
    refine x_iconst (v := 1) d_Tree_newVariable_10 (by decide) ?_
    refine x_putI d_Tree_newVariable_11 (w_Tree_m_24 _) rfl (by first | rfl | decide) (by first | rfl | decide) (by assumption) ?_
    refine x_iconst (v := -1) d_Tree_newVariable_14 (by decide) ?_
    exact x_ireturn d_Tree_newVariable_15 rfl rfl (by
      have hlt : ¬ tV T < 100 := by rw [t5] at c6; exact fun z => c6 (nI_lt (b := 100) z (by decide))
      have ff : Fr [131] σ (wI σ 131 3 1) := Fr.rf.wI (by simp)
      rw [tNew, if_neg hlt] at hQ
      exact hQ _ (hT.int ff t3 ⟨by rw [wI_j (by decide)]; exact t4, t4b⟩ ⟨by rw [wI_j (by decide)]; exact t5, t5b⟩ (by rw [wI_s]; rfl) rfl) ff)
def tOpen (T : TS) (ab : Option Nat) (l : List Int32) : TS := (T.1 + 1, T.2.1, T.2.2.1, upN T.2.2.2 T.1 (nOpen (T.2.2.2 T.1) ab l))
def tLnk (T : TS) (ab : Option Nat) (n : Nat) : TS := match ab with
  | none => T
  | some p => tPut T p n
def tAdd (T : TS) (ab : Option Nat) (l : List Int32) (tl : Bool) : TS × Option Nat := if 48 ≤ tN T ∨ 40 < l.length ∨ tl = true then (tGr T, none) else (tLnk (tOpen T ab l) ab (tN T), some (tN T))
theorem nI_subn {f t : Nat} (h : f ≤ t) : nI t - nI f = nI (t - f) := by
  have e : nI t = nI (t - f) + nI f := by rw [nI_add]; congr 1; omega
  rw [e, Int32.add_sub_cancel]
theorem isTree.grw {Γ : List Sh} {σ : Mem} {T : TS} (h : isTree Γ σ T) : isTree Γ (wI σ 131 3 1) (tGr T) ∧ Fr [131] σ (wI σ 131 3 1) := by
  have ff : Fr [131] σ (wI σ 131 3 1) := Fr.rf.wI (by simp)
  exact ⟨h.int ff h.2.2.1 ⟨by rw [wI_j (by decide)]; exact h.2.2.2.1.1, h.2.2.2.1.2⟩ ⟨by rw [wI_j (by decide)]; exact h.2.2.2.2.1.1, h.2.2.2.2.1.2⟩ (by rw [wI_s]; rfl) rfl, ff⟩
set_option maxRecDepth 10000 in
set_option maxHeartbeats 1000000 in
theorem c_Tree_add {G : Ctx} {d : Nat} {Γ : List Sh} {σ : Mem} {Q : Option Value → List Sh → Mem → Prop} {T : TS} {r m f t : Nat} {ab : Option Nat} {os : List Int32}  (hT : isTree Γ σ T) (hR : isRow Γ σ r m os) (hr : tN T < 48 → ¬ inN (tN T) r) (hr2 : r < 130 ∨ 131 < r) (ha : lk48 ab) (hft : f ≤ t) (htl : t ≤ (os.take m).length) (hQ : ∀ σ', isTree Γ σ' (tAdd T ab (((os.take m).take t).drop f) (decide (m < os.length))).1 → FrP inT σ σ' → Q (some (ov G ((tAdd T ab (((os.take m).take t).drop f) (decide (m < os.length))).2.map nc))) Γ σ') : Ct G M_Tree_add (d + 3) 0 0 [rf G 131, ov G (ab.map nc), rf G r, .int (nI f), .int (nI t)] Γ σ Q := by
  obtain ⟨t1, t2, t3, ⟨t4, t4b⟩, ⟨t5, t5b⟩, t6, t7⟩ := id hT
  have hzl := hR.tl
  have hll : (((os.take m).take t).drop f).length = t - f := by rw [List.length_drop, List.length_take]; omega
  obtain ⟨a1, -⟩ := id hR
  refine Ct.of (lv := [some (rf G 131), some (ov G (ab.map nc)), some (rf G r), some (.int (nI f)), some (.int (nI t)), none]) (ll := []) rfl rfl (EN.cat (n := 1) ⟨rfl, ov_cat, rfl, rfl, rfl, trivial⟩ (Nat.le_of_ble_eq_true rfl)) ?_
  first | refine x_aload_n d_Tree_add_0 rfl rfl ?_ | refine x_aloadN_n d_Tree_add_0 rfl rfl ?_ | refine x_aloadE_n d_Tree_add_0 rfl rfl ?_ | refine x_aloadO_n d_Tree_add_0 rfl rfl ?_
  refine x_getI d_Tree_add_1 f_Tree_17 rfl (by assumption) ?_
  refine x_if_lt (tgt := 32) d_Tree_add_4 (by decide) (fun c4 => ?_) (fun c4 => ?_)
  · first | refine x_aload_n d_Tree_add_32 rfl rfl ?_ | refine x_aloadN_n d_Tree_add_32 rfl rfl ?_ | refine x_aloadE_n d_Tree_add_32 rfl rfl ?_ | refine x_aloadO_n d_Tree_add_32 rfl rfl ?_
    refine x_iconst (v := 1) d_Tree_add_33 (by decide) ?_
    refine x_putI d_Tree_add_34 (w_Tree_m_24 _) rfl (by first | rfl | decide) (by first | rfl | decide) (by assumption) ?_
    refine x_null d_Tree_add_37 ?_
    exact x_areturnN d_Tree_add_38 rfl (by
      have hc : 48 ≤ tN T ∨ 40 < (((os.take m).take t).drop f).length ∨ decide (m < os.length) = true := by
        first
        | exact absurd c4 (by rw [t4]; exact nI_nneg _ (by omega))
        | (rw [t4] at c13; exact Or.inl ((nI_leI (a := 48) (by decide) (by omega)).mp c13))
        | (rw [nI_subn hft] at c22; exact Or.inr (Or.inl (by rw [hll]; exact (nI_ltI (a := 40) (by decide) (by omega)).mp c22)))
        | exact Or.inr (Or.inr (bI_n0 c29))
      have hh := hT.grw
      have hq := hQ _ (by rw [tAdd, if_pos hc]; exact hh.1) (hh.2.T (by simp; exact i131))
      rw [tAdd, if_pos hc] at hq
      exact hq)
  · first | refine x_aload_n d_Tree_add_7 rfl rfl ?_ | refine x_aloadN_n d_Tree_add_7 rfl rfl ?_ | refine x_aloadE_n d_Tree_add_7 rfl rfl ?_ | refine x_aloadO_n d_Tree_add_7 rfl rfl ?_
    refine x_getI d_Tree_add_8 f_Tree_17 rfl (by assumption) ?_
    refine x_bipush (v := 48) d_Tree_add_11 (by decide) ?_
    refine x_icmp_ge (tgt := 32) d_Tree_add_13 (by decide) (fun c13 => ?_) (fun c13 => ?_)
    · first | refine x_aload_n d_Tree_add_32 rfl rfl ?_ | refine x_aloadN_n d_Tree_add_32 rfl rfl ?_ | refine x_aloadE_n d_Tree_add_32 rfl rfl ?_ | refine x_aloadO_n d_Tree_add_32 rfl rfl ?_
      refine x_iconst (v := 1) d_Tree_add_33 (by decide) ?_
      refine x_putI d_Tree_add_34 (w_Tree_m_24 _) rfl (by first | rfl | decide) (by first | rfl | decide) (by assumption) ?_
      refine x_null d_Tree_add_37 ?_
      exact x_areturnN d_Tree_add_38 rfl (by
        have hc : 48 ≤ tN T ∨ 40 < (((os.take m).take t).drop f).length ∨ decide (m < os.length) = true := by
          first
          | exact absurd c4 (by rw [t4]; exact nI_nneg _ (by omega))
          | (rw [t4] at c13; exact Or.inl ((nI_leI (a := 48) (by decide) (by omega)).mp c13))
          | (rw [nI_subn hft] at c22; exact Or.inr (Or.inl (by rw [hll]; exact (nI_ltI (a := 40) (by decide) (by omega)).mp c22)))
          | exact Or.inr (Or.inr (bI_n0 c29))
        have hh := hT.grw
        have hq := hQ _ (by rw [tAdd, if_pos hc]; exact hh.1) (hh.2.T (by simp; exact i131))
        rw [tAdd, if_pos hc] at hq
        exact hq)
    · refine x_iload d_Tree_add_16 rfl ?_
      refine x_iload_n d_Tree_add_18 rfl rfl ?_
      refine x_isub d_Tree_add_19 ?_
      refine x_bipush (v := 40) d_Tree_add_20 (by decide) ?_
      refine x_icmp_gt (tgt := 32) d_Tree_add_22 (by decide) (fun c22 => ?_) (fun c22 => ?_)
      · first | refine x_aload_n d_Tree_add_32 rfl rfl ?_ | refine x_aloadN_n d_Tree_add_32 rfl rfl ?_ | refine x_aloadE_n d_Tree_add_32 rfl rfl ?_ | refine x_aloadO_n d_Tree_add_32 rfl rfl ?_
        refine x_iconst (v := 1) d_Tree_add_33 (by decide) ?_
        refine x_putI d_Tree_add_34 (w_Tree_m_24 _) rfl (by first | rfl | decide) (by first | rfl | decide) (by assumption) ?_
        refine x_null d_Tree_add_37 ?_
        exact x_areturnN d_Tree_add_38 rfl (by
          have hc : 48 ≤ tN T ∨ 40 < (((os.take m).take t).drop f).length ∨ decide (m < os.length) = true := by
            first
            | exact absurd c4 (by rw [t4]; exact nI_nneg _ (by omega))
            | (rw [t4] at c13; exact Or.inl ((nI_leI (a := 48) (by decide) (by omega)).mp c13))
            | (rw [nI_subn hft] at c22; exact Or.inr (Or.inl (by rw [hll]; exact (nI_ltI (a := 40) (by decide) (by omega)).mp c22)))
            | exact Or.inr (Or.inr (bI_n0 c29))
          have hh := hT.grw
          have hq := hQ _ (by rw [tAdd, if_pos hc]; exact hh.1) (hh.2.T (by simp; exact i131))
          rw [tAdd, if_pos hc] at hq
          exact hq)
      · first | refine x_aload_n d_Tree_add_25 rfl rfl ?_ | refine x_aloadN_n d_Tree_add_25 rfl rfl ?_ | refine x_aloadE_n d_Tree_add_25 rfl rfl ?_ | refine x_aloadO_n d_Tree_add_25 rfl rfl ?_
        refine x_callV0 d_Tree_add_26 k_Row_isTooLong l_Tree_31 v_Row_isTooLong rfl s_Row_isTooLong (by assumption) RoomE.m (Nat.le_of_ble_eq_true rfl) (c_Row_isTooLong hR ?_)
        refine x_if_eq (tgt := 39) d_Tree_add_29 (by decide) (fun c29 => ?_) (fun c29 => ?_)
        · have hc : ¬ (48 ≤ tN T ∨ 40 < (((os.take m).take t).drop f).length ∨ decide (m < os.length) = true) := by
            rintro (z | z | z)
            · rw [t4] at c13; exact c13 (nI_le (a := 48) z (by omega))
            · rw [nI_subn hft] at c22; rw [hll] at z; exact c22 (nI_lt (a := 40) z (by omega))
            · rw [bI_0 c29] at z; cases z
          have hlt : tN T < 48 := by omega
          rw [tAdd, if_neg hc] at hQ
          first | refine x_aload_n d_Tree_add_39 rfl rfl ?_ | refine x_aloadN_n d_Tree_add_39 rfl rfl ?_ | refine x_aloadE_n d_Tree_add_39 rfl rfl ?_ | refine x_aloadO_n d_Tree_add_39 rfl rfl ?_
          refine x_getR d_Tree_add_40 f_Tree_11 rfl (by assumption) (by assumption) ?_
          first | refine x_aload_n d_Tree_add_43 rfl rfl ?_ | refine x_aloadN_n d_Tree_add_43 rfl rfl ?_ | refine x_aloadE_n d_Tree_add_43 rfl rfl ?_ | refine x_aloadO_n d_Tree_add_43 rfl rfl ?_
          refine x_getI d_Tree_add_44 f_Tree_17 rfl (by assumption) ?_
          refine x_aald d_Tree_add_47 (by assumption) (by decide) (by rw [t4]; exact vp_in_nI hlt (by decide)) (by rw [t4, nI_clamp (by omega)]; exact (t7 _ hlt).1) ?_
          first | refine x_astore d_Tree_add_48 rfl ?_ | refine x_astoreN d_Tree_add_48 rfl ?_ | refine x_astoreE d_Tree_add_48 rfl ?_ | refine x_astoreO d_Tree_add_48 rfl ?_
          first | refine x_aload_n d_Tree_add_50 rfl rfl ?_ | refine x_aloadN_n d_Tree_add_50 rfl rfl ?_ | refine x_aloadE_n d_Tree_add_50 rfl rfl ?_ | refine x_aloadO_n d_Tree_add_50 rfl rfl ?_
          refine x_dup d_Tree_add_51 rfl ?_
          refine x_getI d_Tree_add_52 f_Tree_17 rfl (by assumption) ?_
          refine x_iconst (v := 1) d_Tree_add_55 (by decide) ?_
          refine x_iadd d_Tree_add_56 ?_
          refine x_putI d_Tree_add_57 (w_Tree_m_17 _) rfl (by first | rfl | decide) (by first | rfl | decide) (by assumption) ?_
          have ff : Fr [131] σ (wI σ 131 1 (σ.1 131 1 + 1)) := Fr.rf.wI (by simp)
          have T0 : isTree Γ (wI σ 131 1 (σ.1 131 1 + 1)) (T.1 + 1, T.2) := hT.int ff t3 ⟨by rw [wI_s, t4, nI_1]; rfl, hlt⟩ ⟨by rw [wI_j (by decide)]; exact t5, t5b⟩ (by rw [wI_j (by decide)]; exact t6) rfl
          first | refine x_aload d_Tree_add_60 rfl ?_ | refine x_aloadN d_Tree_add_60 rfl ?_ | refine x_aloadE d_Tree_add_60 rfl ?_ | refine x_aloadO d_Tree_add_60 rfl ?_
          first | refine x_aload_n d_Tree_add_62 rfl rfl ?_ | refine x_aloadN_n d_Tree_add_62 rfl rfl ?_ | refine x_aloadE_n d_Tree_add_62 rfl rfl ?_ | refine x_aloadO_n d_Tree_add_62 rfl rfl ?_
          first | refine x_aload_n d_Tree_add_63 rfl rfl ?_ | refine x_aloadN_n d_Tree_add_63 rfl rfl ?_ | refine x_aloadE_n d_Tree_add_63 rfl rfl ?_ | refine x_aloadO_n d_Tree_add_63 rfl rfl ?_
          refine x_iload_n d_Tree_add_64 rfl rfl ?_
          refine x_iload d_Tree_add_65 rfl ?_
          refine x_callV4 d_Tree_add_67 k_Node_open l_Tree_37 v_Node_open rfl s_Node_open (by exact (hT.nd hlt).1) RoomE.m (Nat.le_of_ble_eq_true rfl) (c_Node_open (T0.nd hlt) (hR.Fr ff (by simp; omega) (by simp; omega)) (hr hlt) ha (by omega) (by omega) (fun τ1 h1 f1 => ?_))
          have T1 := T0.up hlt f1 h1
          have ft1 : FrP inT σ τ1 := (ff.T (by simp; exact i131)).tr (f1.T hlt)
          first | refine x_aload_n d_Tree_add_70 rfl rfl ?_ | refine x_aloadN_n d_Tree_add_70 rfl rfl ?_ | refine x_aloadE_n d_Tree_add_70 rfl rfl ?_ | refine x_aloadO_n d_Tree_add_70 rfl rfl ?_
          rcases hO71 : ab with _ | k71
          · subst hO71
            refine x_ifnullN (tgt := 80) d_Tree_add_71 (by decide) ?_
            first | refine x_aload d_Tree_add_80 rfl ?_ | refine x_aloadN d_Tree_add_80 rfl ?_ | refine x_aloadE d_Tree_add_80 rfl ?_ | refine x_aloadO d_Tree_add_80 rfl ?_
            exact x_areturn d_Tree_add_82 rfl (hQ _ T1 ft1)
          · subst hO71
            refine x_ifnull d_Tree_add_71 ?_
            first | refine x_aload_n d_Tree_add_74 rfl rfl ?_ | refine x_aloadN_n d_Tree_add_74 rfl rfl ?_ | refine x_aloadE_n d_Tree_add_74 rfl rfl ?_ | refine x_aloadO_n d_Tree_add_74 rfl rfl ?_
            first | refine x_aload d_Tree_add_75 rfl ?_ | refine x_aloadN d_Tree_add_75 rfl ?_ | refine x_aloadE d_Tree_add_75 rfl ?_ | refine x_aloadO d_Tree_add_75 rfl ?_
            refine x_callV1 d_Tree_add_77 k_Node_put l_Tree_41 v_Node_put rfl s_Node_put (by exact (hT.nd (ha _ rfl)).1) RoomE.m (Nat.le_of_ble_eq_true rfl) (c_Node_put T1 (ha _ rfl) hlt (fun τ2 T2 f2 => ?_))
            first | refine x_aload d_Tree_add_80 rfl ?_ | refine x_aloadN d_Tree_add_80 rfl ?_ | refine x_aloadE d_Tree_add_80 rfl ?_ | refine x_aloadO d_Tree_add_80 rfl ?_
            exact x_areturn d_Tree_add_82 rfl (hQ _ T2 (ft1.tr f2))
        · first | refine x_aload_n d_Tree_add_32 rfl rfl ?_ | refine x_aloadN_n d_Tree_add_32 rfl rfl ?_ | refine x_aloadE_n d_Tree_add_32 rfl rfl ?_ | refine x_aloadO_n d_Tree_add_32 rfl rfl ?_
          refine x_iconst (v := 1) d_Tree_add_33 (by decide) ?_
          refine x_putI d_Tree_add_34 (w_Tree_m_24 _) rfl (by first | rfl | decide) (by first | rfl | decide) (by assumption) ?_
          refine x_null d_Tree_add_37 ?_
          exact x_areturnN d_Tree_add_38 rfl (by
            have hc : 48 ≤ tN T ∨ 40 < (((os.take m).take t).drop f).length ∨ decide (m < os.length) = true := by
              first
              | exact absurd c4 (by rw [t4]; exact nI_nneg _ (by omega))
              | (rw [t4] at c13; exact Or.inl ((nI_leI (a := 48) (by decide) (by omega)).mp c13))
              | (rw [nI_subn hft] at c22; exact Or.inr (Or.inl (by rw [hll]; exact (nI_ltI (a := 40) (by decide) (by omega)).mp c22)))
              | exact Or.inr (Or.inr (bI_n0 c29))
            have hh := hT.grw
            have hq := hQ _ (by rw [tAdd, if_pos hc]; exact hh.1) (hh.2.T (by simp; exact i131))
            rw [tAdd, if_pos hc] at hq
            exact hq)
