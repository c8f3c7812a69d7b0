/-! SuperDriverModel: partsOf, end, alike -/
def mPk (σ : Mem) (k : Nat) : Int32 := if k < 100 then 0 else if k = 400 then 0 else if k < 200 then bO (nI k) else if k < 300 then σ.1 393 (k - 200) else σ.1 412 (k - 300)
def okk (k : Nat) : Prop := k < 208 ∨ (300 ≤ k ∧ k < 348) ∨ k = 400
theorem nI_sub200 {k : Nat} (h : 200 ≤ k) : nI k - 200 = nI (k - 200) := nI_sub h
theorem nI_sub300 {k : Nat} (h : 300 ≤ k) : nI k - 300 = nI (k - 300) := nI_sub h
theorem nI_sub100 {k : Nat} (h : 100 ≤ k) : nI k - 100 = nI (k - 100) := nI_sub h
theorem okk.le {k : Nat} (h : okk k) : k ≤ 400 := by unfold okk at h; omega
theorem nI_inj {a b : Nat} (h : nI a = nI b) (ha : a < 2000000) (hb : b < 2000000) : a = b := (nI_eq (by omega) (by omega)).mp h
set_option maxRecDepth 10000 in
set_option maxHeartbeats 1000000 in
theorem c_Mo_partsOf {G : Ctx} {d : Nat} {Γ : List Sh} {σ : Mem} {Q : Option Value → List Sh → Mem → Prop} {k : Nat} (hM : MoS Γ σ) (hk : okk k) (hQ : Q (some (.int (mPk σ k))) Γ σ) : Ct G M_Mo_partsOf (d + 1) 0 0 [rf G 391, .int (nI k)] Γ σ Q := by
  have hkl := hk.le
  refine Ct.of (lv := [some (rf G 391), some (.int (nI k))]) (ll := []) rfl rfl (EN.cat (n := 0) ⟨rfl, rfl, trivial⟩ (Nat.le_of_ble_eq_true rfl)) ?_
  refine x_iload_n d_Mo_partsOf_0 rfl rfl ?_
  refine x_bipush (v := 100) d_Mo_partsOf_1 (by decide) ?_
  refine x_icmp_lt (tgt := 13) d_Mo_partsOf_3 (by decide) (fun c3 => ?_) (fun c3 => ?_)
  · refine x_iconst (v := 0) d_Mo_partsOf_13 (by decide) ?_
    exact x_ireturn d_Mo_partsOf_14 rfl (by first | rfl | decide) (by
  unfold mPk at hQ
  first
  | (rw [if_pos ((nI_ltI (by omega) (by decide)).mp (show nI k < nI 100 from c3))] at hQ; exact hQ)
  | (rw [if_neg h3, if_pos (nI_inj (show nI k = nI 400 from c10) (by omega) (by decide))] at hQ; exact hQ)
  | (rw [if_neg h3, if_neg h10, if_pos h19] at hQ; exact hQ)
  | (rw [if_neg h3, if_neg h10, if_neg (by omega), if_pos h31, ← nI_clamp (show k - 200 < 2 ^ 31 by omega)] at hQ; exact hQ)
  | (rw [if_neg h3, if_neg h10, if_neg (by omega), if_neg (by omega), ← nI_clamp (show k - 300 < 2 ^ 31 by omega)] at hQ; exact hQ))
  · have h3 : ¬ k < 100 := fun z => c3 (show nI k < nI 100 from nI_lt z (by decide))
    refine x_iload_n d_Mo_partsOf_6 rfl rfl ?_
    refine x_sipush (v := 400) d_Mo_partsOf_7 (by decide) ?_
    refine x_icmp_ne (tgt := 15) d_Mo_partsOf_10 (by decide) (fun c10 => ?_) (fun c10 => ?_)
    · have h10 : ¬ k = 400 := fun z => c10 (by rw [z]; rfl)
      refine x_iload_n d_Mo_partsOf_15 rfl rfl ?_
      refine x_sipush (v := 200) d_Mo_partsOf_16 (by decide) ?_
      refine x_icmp_ge (tgt := 27) d_Mo_partsOf_19 (by decide) (fun c19 => ?_) (fun c19 => ?_)
      · have h19 : 200 ≤ k := (nI_leI (by decide) (by omega)).mp (show nI 200 ≤ nI k from c19)
        refine x_iload_n d_Mo_partsOf_27 rfl rfl ?_
        refine x_sipush (v := 300) d_Mo_partsOf_28 (by decide) ?_
        refine x_icmp_ge (tgt := 47) d_Mo_partsOf_31 (by decide) (fun c31 => ?_) (fun c31 => ?_)
        · have h31 : 300 ≤ k := (nI_leI (by decide) (by omega)).mp (show nI 300 ≤ nI k from c31)
          first | refine x_aload_n d_Mo_partsOf_47 rfl rfl ?_ | refine x_aloadN_n d_Mo_partsOf_47 rfl rfl ?_ | refine x_aloadE_n d_Mo_partsOf_47 rfl rfl ?_ | refine x_aloadO_n d_Mo_partsOf_47 rfl rfl ?_
          refine x_getR d_Mo_partsOf_48 f_Mo_71 rfl (by first | exact hM.1 | exact hM.s rfl | assumption) (hM.r rfl) ?_
          refine x_iload_n d_Mo_partsOf_51 rfl rfl ?_
          refine x_sipush (v := 300) d_Mo_partsOf_52 (by decide) ?_
          refine x_isub d_Mo_partsOf_55 ?_
          rw [nI_sub300 h31]
          refine x_iald d_Mo_partsOf_56 (by first | exact hM.1 | exact hM.s rfl | assumption) (vp_in_nI (show k - 300 < 48 by unfold okk at hk; omega) (by decide)) ?_
          exact x_ireturn d_Mo_partsOf_57 rfl (by first | rfl | decide) (by
  unfold mPk at hQ
  first
  | (rw [if_pos ((nI_ltI (by omega) (by decide)).mp (show nI k < nI 100 from c3))] at hQ; exact hQ)
  | (rw [if_neg h3, if_pos (nI_inj (show nI k = nI 400 from c10) (by omega) (by decide))] at hQ; exact hQ)
  | (rw [if_neg h3, if_neg h10, if_pos h19] at hQ; exact hQ)
  | (rw [if_neg h3, if_neg h10, if_neg (by omega), if_pos h31, ← nI_clamp (show k - 200 < 2 ^ 31 by omega)] at hQ; exact hQ)
  | (rw [if_neg h3, if_neg h10, if_neg (by omega), if_neg (by omega), ← nI_clamp (show k - 300 < 2 ^ 31 by omega)] at hQ; exact hQ))
        · have h31 : k < 300 := Nat.not_le.mp fun z => c31 (show nI 300 ≤ nI k from nI_le z (by omega))
          first | refine x_aload_n d_Mo_partsOf_34 rfl rfl ?_ | refine x_aloadN_n d_Mo_partsOf_34 rfl rfl ?_ | refine x_aloadE_n d_Mo_partsOf_34 rfl rfl ?_ | refine x_aloadO_n d_Mo_partsOf_34 rfl rfl ?_
          refine x_getR d_Mo_partsOf_35 f_Mo_13 rfl (by first | exact hM.1 | exact hM.s rfl | assumption) (hM.r rfl) ?_
          refine x_iload_n d_Mo_partsOf_38 rfl rfl ?_
          refine x_sipush (v := 200) d_Mo_partsOf_39 (by decide) ?_
          refine x_isub d_Mo_partsOf_42 ?_
          rw [nI_sub200 h19]
          refine x_iald d_Mo_partsOf_43 (by first | exact hM.1 | exact hM.s rfl | assumption) (vp_in_nI (show k - 200 < 8 by unfold okk at hk; omega) (by decide)) ?_
          refine x_goto (tgt := 57) d_Mo_partsOf_44 (by decide) ?_
          exact x_ireturn d_Mo_partsOf_57 rfl (by first | rfl | decide) (by
  unfold mPk at hQ
  first
  | (rw [if_pos ((nI_ltI (by omega) (by decide)).mp (show nI k < nI 100 from c3))] at hQ; exact hQ)
  | (rw [if_neg h3, if_pos (nI_inj (show nI k = nI 400 from c10) (by omega) (by decide))] at hQ; exact hQ)
  | (rw [if_neg h3, if_neg h10, if_pos h19] at hQ; exact hQ)
  | (rw [if_neg h3, if_neg h10, if_neg (by omega), if_pos h31, ← nI_clamp (show k - 200 < 2 ^ 31 by omega)] at hQ; exact hQ)
  | (rw [if_neg h3, if_neg h10, if_neg (by omega), if_neg (by omega), ← nI_clamp (show k - 300 < 2 ^ 31 by omega)] at hQ; exact hQ))
      · have h19 : k < 200 := Nat.not_le.mp fun z => c19 (show nI 200 ≤ nI k from nI_le z (by omega))
        refine x_iload_n d_Mo_partsOf_22 rfl rfl ?_
        refine x_callS1 d_Mo_partsOf_23 k_Mo_builtOf l_Mo_120 z_Mo_builtOf RoomE.m (Nat.le_of_ble_eq_true rfl) (c_Mo_builtOf ?_)
        exact x_ireturn d_Mo_partsOf_26 rfl (by first | rfl | decide) (by
  unfold mPk at hQ
  first
  | (rw [if_pos ((nI_ltI (by omega) (by decide)).mp (show nI k < nI 100 from c3))] at hQ; exact hQ)
  | (rw [if_neg h3, if_pos (nI_inj (show nI k = nI 400 from c10) (by omega) (by decide))] at hQ; exact hQ)
  | (rw [if_neg h3, if_neg h10, if_pos h19] at hQ; exact hQ)
  | (rw [if_neg h3, if_neg h10, if_neg (by omega), if_pos h31, ← nI_clamp (show k - 200 < 2 ^ 31 by omega)] at hQ; exact hQ)
  | (rw [if_neg h3, if_neg h10, if_neg (by omega), if_neg (by omega), ← nI_clamp (show k - 300 < 2 ^ 31 by omega)] at hQ; exact hQ))
    · refine x_iconst (v := 0) d_Mo_partsOf_13 (by decide) ?_
      exact x_ireturn d_Mo_partsOf_14 rfl (by first | rfl | decide) (by
  unfold mPk at hQ
  first
  | (rw [if_pos ((nI_ltI (by omega) (by decide)).mp (show nI k < nI 100 from c3))] at hQ; exact hQ)
  | (rw [if_neg h3, if_pos (nI_inj (show nI k = nI 400 from c10) (by omega) (by decide))] at hQ; exact hQ)
  | (rw [if_neg h3, if_neg h10, if_pos h19] at hQ; exact hQ)
  | (rw [if_neg h3, if_neg h10, if_neg (by omega), if_pos h31, ← nI_clamp (show k - 200 < 2 ^ 31 by omega)] at hQ; exact hQ)
  | (rw [if_neg h3, if_neg h10, if_neg (by omega), if_neg (by omega), ← nI_clamp (show k - 300 < 2 ^ 31 by omega)] at hQ; exact hQ))
def pOK (σ : Mem) (q : Int32 → Nat) (s : Int32) : Prop := ∃ k, s = nI k ∧ okk k ∧ mPk σ k = nI (q s) ∧ q s ≤ 60
def pAll (σ : Mem) (q : Int32 → Nat) (zs : List Int32) : Prop := ∀ s ∈ zs, pOK σ q s
theorem pAll.getD {σ : Mem} {q : Int32 → Nat} {zs : List Int32} {i : Nat} (h : pAll σ q zs) (hi : i < zs.length) : pOK σ q (zs.getD i (-1)) := h _ (getD_mem hi)
theorem pOK.fr {σ σ' : Mem} {q : Int32 → Nat} {s : Int32} {S : List Nat} (h : pOK σ q s) (hf : FrI S σ σ') (h1 : 393 ∉ S) (h2 : 412 ∉ S) : pOK σ' q s := by
  obtain ⟨k, e, ok, h, hl⟩ := h
  refine ⟨k, e, ok, ?_, hl⟩
  unfold mPk at h ⊢
  rw [hf.2 _ h1, hf.2 _ h2]
  exact h
theorem pAll.fr {σ σ' : Mem} {q : Int32 → Nat} {zs : List Int32} {S : List Nat} (h : pAll σ q zs) (hf : FrI S σ σ') (h1 : 393 ∉ S) (h2 : 412 ∉ S) : pAll σ' q zs := fun s hs => (h s hs).fr hf h1 h2
theorem nI_m1a {o r : Nat} (h : 0 < o) : nI o - 1 + nI r = nI (o - 1 + r) := by
  obtain ⟨q, rfl⟩ : ∃ q, o = q + 1 := ⟨o - 1, by omega⟩
  rw [nI_pred, nI_add, Nat.add_sub_cancel]
set_option maxRecDepth 10000 in
set_option maxHeartbeats 1000000 in
theorem c_Mo_end {G : Ctx} {d : Nat} {Γ : List Sh} {σ : Mem} {Q : Option Value → List Sh → Mem → Prop} {c N p0 i m : Nat} {zs : List Int32} {q : Int32 → Nat} (hM : MoS Γ σ) (hs : Γ[c]? = some (1, N)) (hseg : seg σ c p0 zs) (hN : p0 + zs.length ≤ N) (hN2 : N ≤ 30000) (hp : pAll σ q zs) (hfl : full q (m + 1) (zs.drop i) = true) (hQ : Q (some (.int (nI (p0 + i + tk q 1 (zs.drop i))))) Γ σ) : Ct G M_Mo_end (d + 2) 0 0 [rf G 391, rf G c, .int (nI (p0 + i))] Γ σ Q := by
  have a0d : True := trivial
  have lp : ∀ (a0 : Int32) (k j o : Nat), zs.length < i + j + k → o ≤ 1 + 60 * j → tk q 1 (zs.drop i) = j + tk q o (zs.drop (i + j)) → full q (o + m) (zs.drop (i + j)) = true → Wq G M_Mo_end (Em G (d + 2) 0 0 Q) 0 0 5 [some (rf G 391), some (rf G c), some (.int a0), some (.int (nI (p0 + i + j))), some (.int (nI o))] [] [] Γ σ := by
    intro a0 k
    induction k with
    | zero =>
      intro j o hk ho60 htk hf
      have := tk_le (zs.drop i) 1 (p := q)
      rw [List.length_drop] at this
      have hz : i < zs.length := by have := full_ne hfl; rw [List.length_drop] at this; omega
      omega
    | succ k ih =>
    intro j o hk ho60 htk hf
    have hjl : i + j ≤ zs.length := by
      have := tk_le (zs.drop i) 1 (p := q)
      rw [List.length_drop] at this
      have hz : i < zs.length := by have := full_ne hfl; rw [List.length_drop] at this; omega
      omega
    refine x_iload d_Mo_end_5 rfl ?_
    refine x_if_le (tgt := 30) d_Mo_end_7 (by decide) (fun c7 => ?_) (fun c7 => ?_)
    · have ho : o = 0 := by
        by_cases z : o = 0
        · exact z
        · exact absurd c7 (nI_nle (by omega) (by omega))
      subst ho
      refine x_iload_n d_Mo_end_30 rfl rfl ?_
      exact x_ireturn d_Mo_end_31 rfl (by first | rfl | decide) (by rw [htk, tk_z, show p0 + i + (j + 0) = p0 + i + j by omega] at hQ; exact hQ)
    · have ho : 0 < o := Nat.pos_of_ne_zero (fun z => c7 (by rw [z]; decide))
      obtain ⟨o', rfl⟩ : ∃ r, o = r + 1 := ⟨o - 1, by omega⟩
      have hlt : i + j < zs.length := by
        have := full_ne (show full q (o' + m + 1) (zs.drop (i + j)) = true by rw [show o' + m + 1 = o' + 1 + m by omega]; exact hf)
        rw [List.length_drop] at this
        omega
      obtain ⟨k, ek, hok, hpk, hl60⟩ := hp.getD hlt
      have hrd : σ.1 c (p0 + i + j) = nI k := by rw [← ek, ← hseg (i + j) hlt, show p0 + i + j = p0 + (i + j) by omega]
      refine x_iload d_Mo_end_10 rfl ?_
      refine x_iconst (v := 1) d_Mo_end_12 (by decide) ?_
      refine x_isub d_Mo_end_13 ?_
      first | refine x_aload_n d_Mo_end_14 rfl rfl ?_ | refine x_aloadN_n d_Mo_end_14 rfl rfl ?_ | refine x_aloadE_n d_Mo_end_14 rfl rfl ?_ | refine x_aloadO_n d_Mo_end_14 rfl rfl ?_
      first | refine x_aload_n d_Mo_end_15 rfl rfl ?_ | refine x_aloadN_n d_Mo_end_15 rfl rfl ?_ | refine x_aloadE_n d_Mo_end_15 rfl rfl ?_ | refine x_aloadO_n d_Mo_end_15 rfl rfl ?_
      refine x_iload_n d_Mo_end_16 rfl rfl ?_
      refine x_iald d_Mo_end_17 (by exact hs) (vp_in_nI (show p0 + i + j < N by omega) (by omega)) ?_
      rw [nI_clamp (by omega), hrd]
      refine x_callV1 d_Mo_end_18 k_Mo_partsOf l_Mo_124 v_Mo_partsOf rfl s_Mo_partsOf (by first | exact hM.1 | exact hs) RoomE.m (Nat.le_of_ble_eq_true rfl) (c_Mo_partsOf hM hok ?_)
      rw [hpk]
      refine x_iadd d_Mo_end_21 ?_
      first | rw [nI_add] | rw [nI_1] | skip
      rw [nI_m1a (by omega)]
      refine x_istore d_Mo_end_22 rfl ?_
      refine x_iinc (v := nI (p0 + i + (j + 1))) d_Mo_end_24 rfl (nI_1 (p0 + i + j)) rfl ?_
      refine x_goto (tgt := 5) d_Mo_end_27 (by decide) ?_
      exact Wq.fg (ih (j + 1) _ (by omega) (by omega) (by
        rw [htk, drop_cons hlt]
        show j + (1 + tk q (o' + q (zs.getD (i + j) (-1))) (zs.drop (i + j + 1))) = _
        rw [show i + (j + 1) = i + j + 1 by omega, show o' + 1 - 1 + q (zs.getD (i + j) (-1)) = o' + q (zs.getD (i + j) (-1)) by omega]
        omega) (by
        rw [drop_cons hlt, show o' + 1 + m = (o' + m) + 1 by omega] at hf
        have hf2 : full q (o' + m + q (zs.getD (i + j) (-1))) (zs.drop (i + j + 1)) = true := hf
        rw [show i + (j + 1) = i + j + 1 by omega, show o' + 1 - 1 + q (zs.getD (i + j) (-1)) + m = o' + m + q (zs.getD (i + j) (-1)) by omega]
        exact hf2)) ⟨rfl, rfl, rfl, rfl, rfl, trivial⟩
  refine Ct.of (lv := [some (rf G 391), some (rf G c), some (.int (nI (p0 + i))), none, none]) (ll := []) rfl rfl (EN.cat (n := 2) ⟨rfl, rfl, rfl, trivial⟩ (Nat.le_of_ble_eq_true rfl)) ?_
  refine x_iload_n d_Mo_end_0 rfl rfl ?_
  refine x_istore_n d_Mo_end_1 rfl rfl ?_
  refine x_iconst (v := 1) d_Mo_end_2 (by decide) ?_
  refine x_istore d_Mo_end_3 rfl ?_
  exact Wq.fg (lp _ (zs.length + 1) 0 1 (by omega) (by omega) (by rw [Nat.zero_add, Nat.add_zero]) (by rw [Nat.add_comm 1 m]; exact hfl)) ⟨rfl, rfl, rfl, rfl, rfl, trivial⟩
def alk (σ : Mem) (ka a kb b n : Nat) : Bool := decide (∀ k, k < n → σ.1 ka (a + k) = σ.1 kb (b + k))
def alg (σ : Mem) (ka a kb b n i : Nat) (g : Bool) : Bool := g && decide (∀ k, k < n → i ≤ k → σ.1 ka (a + k) = σ.1 kb (b + k))
theorem alg_0 {σ : Mem} {ka a kb b n : Nat} : alk σ ka a kb b n = alg σ ka a kb b n 0 true := by
  unfold alk alg
  rw [Bool.true_and]
  exact decide_eq_decide.mpr ⟨fun h k hk _ => h k hk, fun h k hk => h k hk (Nat.zero_le _)⟩
theorem al_no {σ : Mem} {ka a kb b n i : Nat} (hi : i < n) (h : ¬ σ.1 ka (a + i) = σ.1 kb (b + i)) : alg σ ka a kb b n i true = false := by
  unfold alg
  rw [Bool.true_and]
  exact decide_eq_false (fun z => h (z i hi (Nat.le_refl _)))
theorem al_st {σ : Mem} {ka a kb b n i : Nat} (hi : i < n) (h : σ.1 ka (a + i) = σ.1 kb (b + i)) : alg σ ka a kb b n i true = alg σ ka a kb b n (i + 1) true := by
  unfold alg
  congr 1
  apply decide_eq_decide.mpr
  refine ⟨fun z k hk hl => z k hk (by omega), fun z k hk hl => ?_⟩
  by_cases e : k = i
  · rw [e]; exact h
  · exact z k hk (by omega)
theorem al_n {σ : Mem} {ka a kb b n : Nat} {g : Bool} : alg σ ka a kb b n n g = g := by
  unfold alg
  rw [decide_eq_true (fun k h1 h2 => by omega), Bool.and_true]
set_option maxRecDepth 10000 in
set_option maxHeartbeats 1000000 in
theorem c_Mo_alike {G : Ctx} {d : Nat} {Γ : List Sh} {σ : Mem} {Q : Option Value → List Sh → Mem → Prop} {ka kb a b n Na Nb : Nat} (ha : Γ[ka]? = some (1, Na)) (hb : Γ[kb]? = some (1, Nb)) (h1 : a + n ≤ Na) (h2 : b + n ≤ Nb) (h3 : Na ≤ 30000) (h4 : Nb ≤ 30000) (hQ : Q (some (.int (bI (alk σ ka a kb b n)))) Γ σ) : Ct G M_Mo_alike d 0 0 [rf G 391, rf G ka, .int (nI a), rf G kb, .int (nI b), .int (nI n)] Γ σ Q := by
  have tl : ∀ (g : Bool) (i : Nat), alk σ ka a kb b n = g → Wq G M_Mo_alike (Em G d 0 0 Q) 0 0 47 [some (rf G 391), some (rf G ka), some (.int (nI a)), some (rf G kb), some (.int (nI b)), some (.int (nI n)), some (.int (bI g)), some (.int (nI i))] [] [] Γ σ := by
    intro g i hr
    refine x_iload d_Mo_alike_47 rfl ?_
    exact x_ireturn d_Mo_alike_49 rfl (by cases g <;> rfl) (by rw [hr] at hQ; exact hQ)
  have lp : ∀ (k i : Nat) (g : Bool), i ≤ n → n < i + k → alk σ ka a kb b n = alg σ ka a kb b n i g → Wq G M_Mo_alike (Em G d 0 0 Q) 0 0 6 [some (rf G 391), some (rf G ka), some (.int (nI a)), some (rf G kb), some (.int (nI b)), some (.int (nI n)), some (.int (bI g)), some (.int (nI i))] [] [] Γ σ := by
    intro k
    induction k with
    | zero => intro i g hi hk; omega
    | succ k ih =>
    intro i g hi hk hr
    refine x_iload d_Mo_alike_6 rfl ?_
    refine x_iload d_Mo_alike_8 rfl ?_
    refine x_icmp_ge (tgt := 47) d_Mo_alike_10 (by decide) (fun c10 => ?_) (fun c10 => ?_)
    · exact tl g i (by
        have e : i = n := by have := (nI_leI (by omega) (by omega)).mp c10; omega
        rw [hr, e]; first | exact al_n | rfl)
    · have hin : i < n := Nat.not_le.mp fun z => c10 (nI_le z (by omega))
      refine x_iload d_Mo_alike_13 rfl ?_
      refine x_if_eq (tgt := 47) d_Mo_alike_15 (by decide) (fun c15 => ?_) (fun c15 => ?_)
      · exact tl g i (by
          have e := bI_0 c15
          rw [hr, e]; first | exact al_n | rfl)
      · have hgt : g = true := bI_n0 c15
        subst hgt
        first | refine x_aload_n d_Mo_alike_18 rfl rfl ?_ | refine x_aloadN_n d_Mo_alike_18 rfl rfl ?_ | refine x_aloadE_n d_Mo_alike_18 rfl rfl ?_ | refine x_aloadO_n d_Mo_alike_18 rfl rfl ?_
        refine x_iload_n d_Mo_alike_19 rfl rfl ?_
        refine x_iload d_Mo_alike_20 rfl ?_
        refine x_iadd d_Mo_alike_22 ?_
        first | rw [nI_add] | rw [nI_1] | skip
        refine x_iald d_Mo_alike_23 (by exact ha) (vp_in_nI (show a + i < Na by omega) (by omega)) ?_
        rw [nI_clamp (by omega)]
        first | refine x_aload_n d_Mo_alike_24 rfl rfl ?_ | refine x_aloadN_n d_Mo_alike_24 rfl rfl ?_ | refine x_aloadE_n d_Mo_alike_24 rfl rfl ?_ | refine x_aloadO_n d_Mo_alike_24 rfl rfl ?_
        refine x_iload d_Mo_alike_25 rfl ?_
        refine x_iload d_Mo_alike_27 rfl ?_
        refine x_iadd d_Mo_alike_29 ?_
        first | rw [nI_add] | rw [nI_1] | skip
        refine x_iald d_Mo_alike_30 (by exact hb) (vp_in_nI (show b + i < Nb by omega) (by omega)) ?_
        rw [nI_clamp (by omega)]
        refine x_icmp_ne (tgt := 38) d_Mo_alike_31 (by decide) (fun c31 => ?_) (fun c31 => ?_)
        · refine x_iconst (v := 0) d_Mo_alike_38 (by decide) ?_
          refine x_istore d_Mo_alike_39 rfl ?_
          refine x_iinc (v := nI (i + 1)) d_Mo_alike_41 rfl (nI_1 i) rfl ?_
          refine x_goto (tgt := 6) d_Mo_alike_44 (by decide) ?_
          exact Wq.fg (ih (i + 1) false (by omega) (by omega) (by rw [hr, al_no hin c31]; rfl)) ⟨rfl, rfl, rfl, rfl, rfl, rfl, rfl, rfl, trivial⟩
        · refine x_iconst (v := 1) d_Mo_alike_34 (by decide) ?_
          refine x_goto (tgt := 39) d_Mo_alike_35 (by decide) ?_
          refine x_istore d_Mo_alike_39 rfl ?_
          refine x_iinc (v := nI (i + 1)) d_Mo_alike_41 rfl (nI_1 i) rfl ?_
          refine x_goto (tgt := 6) d_Mo_alike_44 (by decide) ?_
          exact Wq.fg (ih (i + 1) true (by omega) (by omega) (by rw [hr, al_st hin (c31)])) ⟨rfl, rfl, rfl, rfl, rfl, rfl, rfl, rfl, trivial⟩
  refine Ct.of (lv := [some (rf G 391), some (rf G ka), some (.int (nI a)), some (rf G kb), some (.int (nI b)), some (.int (nI n)), none, none]) (ll := []) rfl rfl (EN.cat (n := 2) ⟨rfl, rfl, rfl, rfl, rfl, rfl, trivial⟩ (Nat.le_of_ble_eq_true rfl)) ?_
  refine x_iconst (v := 1) d_Mo_alike_0 (by decide) ?_
  refine x_istore d_Mo_alike_1 rfl ?_
  refine x_iconst (v := 0) d_Mo_alike_3 (by decide) ?_
  refine x_istore d_Mo_alike_4 rfl ?_
  exact Wq.fg (lp (n + 1) 0 true (by omega) (by omega) alg_0) ⟨rfl, rfl, rfl, rfl, rfl, rfl, rfl, by rw [nI_0], trivial⟩
