/-! SuperDriverModel: putResidual, putCall, write -/
def Rw (σ : Mem) (R : List Int32) : Prop := σ.1 391 30 = nI R.length ∧ seg σ 415 0 R
theorem Rw.put {σ : Mem} {R : List Int32} {x : Int32} (h : Rw σ R) : Rw (wI (wI σ 415 R.length x) 391 30 (nI (R.length + 1))) (R ++ [x]) := by
  refine ⟨by rw [wI_s, List.length_append]; rfl, fun i hi => ?_⟩
  rw [List.length_append] at hi
  have hi : i < R.length + 1 := hi
  rw [wI_o (by decide), Nat.zero_add]
  by_cases e : i = R.length
  · subst e
    rw [wI_s]
    simp [List.getD_eq_getElem?_getD]
  · rw [wI_j e]
    have := h.2 i (by omega)
    rw [Nat.zero_add] at this
    rw [this]
    simp only [List.getD_eq_getElem?_getD]
    rw [List.getElem?_append_left (by omega)]
theorem Rw.put' {σ : Mem} {R R' : List Int32} {x : Int32} (h : Rw σ R) (e : R' = R ++ [x]) : Rw (wI (wI σ 415 R.length x) 391 30 (nI (R.length + 1))) R' := e ▸ h.put
theorem Rw.fr {σ τ : Mem} {R : List Int32} {S : List Nat} (h : Rw σ R) (hf : FrI S σ τ) (h1 : 391 ∉ S) (h2 : 415 ∉ S) : Rw τ R := ⟨by rw [hf.2 391 h1]; exact h.1, h.2.fr hf h2⟩
set_option maxRecDepth 10000 in
set_option maxHeartbeats 1000000 in
theorem c_Mo_putResidual {G : Ctx} {d : Nat} {Γ : List Sh} {σ : Mem} {Q : Option Value → List Sh → Mem → Prop} {k : Nat} {l R : List Int32} (hM : MoS Γ σ) (hk : k < 48) (hl : σ.1 414 k = nI l.length) (hs : seg σ 413 (100 * k) l) (hl2 : l.length ≤ 100) (hR : Rw σ R) (hR2 : R.length + l.length ≤ 20400) (hQ : ∀ τ, FrI [391, 415] σ τ → (∀ j, j ≠ 30 → τ.1 391 j = σ.1 391 j) → Rw τ (R ++ l) → Q none Γ τ) : Ct G M_Mo_putResidual (d + 1) 0 0 [rf G 391, .int (nI k)] Γ σ Q := by
  have lp : ∀ (f i : Nat) (τ : Mem), i ≤ l.length → l.length < i + f → FrI [391, 415] σ τ → (∀ j, j ≠ 30 → τ.1 391 j = σ.1 391 j) → Rw τ (R ++ l.take i) → Wq G M_Mo_putResidual (Em G (d + 1) 0 0 Q) 0 0 2 [some (rf G 391), some (.int (nI k)), some (.int (nI i))] [] [] Γ τ := by
    intro f
    induction f with
    | zero => intro i τ hi hf; omega
    | succ f ih =>
    intro i τ hi hf f0 h2 h3
    have hM := hM.fr f0
    refine x_iload_n d_Mo_putResidual_2 rfl rfl ?_
    first | refine x_aload_n d_Mo_putResidual_3 rfl rfl ?_ | refine x_aloadN_n d_Mo_putResidual_3 rfl rfl ?_ | refine x_aloadE_n d_Mo_putResidual_3 rfl rfl ?_ | refine x_aloadO_n d_Mo_putResidual_3 rfl rfl ?_
    refine x_getR d_Mo_putResidual_4 f_Mo_77 rfl (by first | exact hM.1 | exact hM.s rfl | assumption) (hM.r rfl) ?_
    refine x_iload_n d_Mo_putResidual_7 rfl rfl ?_
    refine x_iald d_Mo_putResidual_8 (by first | exact hM.1 | exact hM.s rfl | assumption) (vp_in_nI hk (by decide)) ?_
    rw [nI_clamp (by omega), f0.2 414 (by simp), hl]
    refine x_icmp_ge (tgt := 33) d_Mo_putResidual_9 (by decide) (fun c9 => ?_) (fun c9 => ?_)
    · have e : i = l.length := by have := (nI_leI (by omega) (by omega)).mp c9; omega
      rw [e, List.take_length] at h3
      exact x_return d_Mo_putResidual_33 rfl (hQ τ f0 h2 h3)
    · have hil : i < l.length := Nat.not_le.mp fun z => c9 (nI_le z (by omega))
      first | refine x_aload_n d_Mo_putResidual_12 rfl rfl ?_ | refine x_aloadN_n d_Mo_putResidual_12 rfl rfl ?_ | refine x_aloadE_n d_Mo_putResidual_12 rfl rfl ?_ | refine x_aloadO_n d_Mo_putResidual_12 rfl rfl ?_
      first | refine x_aload_n d_Mo_putResidual_13 rfl rfl ?_ | refine x_aloadN_n d_Mo_putResidual_13 rfl rfl ?_ | refine x_aloadE_n d_Mo_putResidual_13 rfl rfl ?_ | refine x_aloadO_n d_Mo_putResidual_13 rfl rfl ?_
      refine x_getR d_Mo_putResidual_14 f_Mo_74 rfl (by first | exact hM.1 | exact hM.s rfl | assumption) (hM.r rfl) ?_
      refine x_bipush (v := 100) d_Mo_putResidual_17 (by decide) ?_
      refine x_iload_n d_Mo_putResidual_19 rfl rfl ?_
      refine x_imul d_Mo_putResidual_20 ?_
      first | rw [mul40] | rw [mul24] | rw [mul100] | rw [mul7] | skip
      refine x_iload_n d_Mo_putResidual_21 rfl rfl ?_
      refine x_iadd d_Mo_putResidual_22 ?_
      first | rw [nI_add] | rw [nI_1] | skip
      refine x_iald d_Mo_putResidual_23 (by first | exact hM.1 | exact hM.s rfl | assumption) (vp_in_nI (show 100 * k + i < 4800 by omega) (by decide)) ?_
      rw [nI_clamp (by omega), f0.2 413 (by simp), hs i hil]
      refine x_callV1 d_Mo_putResidual_24 k_Mo_put l_Mo_272 v_Mo_put rfl s_Mo_put (by first | exact hM.1 | exact hM.s rfl | assumption) RoomE.m (Nat.le_of_ble_eq_true rfl) (c_Mo_put hM h3.1 (by rw [List.length_append, List.length_take]; omega) ?_)
      refine x_iinc (v := nI (i + 1)) d_Mo_putResidual_27 rfl (nI_1 i) rfl ?_
      refine x_goto (tgt := 2) d_Mo_putResidual_30 (by decide) ?_
      exact Wq.fg (ih (i + 1) _ (by omega) (by omega) ((f0.put (by simp)).put (by simp)) (fun j hj => by rw [wI_j hj, wI_o (by decide)]; exact h2 j hj) (h3.put' (by rw [take_s hil, List.append_assoc]))) ⟨rfl, rfl, rfl, trivial⟩
  refine Ct.of (lv := [some (rf G 391), some (.int (nI k)), none]) (ll := []) rfl rfl (EN.cat (n := 1) ⟨rfl, rfl, trivial⟩ (Nat.le_of_ble_eq_true rfl)) ?_
  refine x_iconst (v := 0) d_Mo_putResidual_0 (by decide) ?_
  refine x_istore_n d_Mo_putResidual_1 rfl rfl ?_
  exact Wq.fg (lp (l.length + 1) 0 _ (by omega) (by omega) FrI.rf (fun _ _ => rfl) (by rw [List.take_zero, List.append_nil]; exact hR)) ⟨rfl, rfl, by rw [nI_0], trivial⟩
set_option maxRecDepth 10000 in
set_option maxHeartbeats 1000000 in
theorem c_Mo_putCall {G : Ctx} {d : Nat} {Γ : List Sh} {σ : Mem} {Q : Option Value → List Sh → Mem → Prop} {k : Nat} {l R : List Int32} (hM : MoS Γ σ) (hk : k < 48) (hl : σ.1 412 k = nI l.length) (hs : seg σ 411 (40 * k) l) (hl2 : l.length ≤ 40) (hR : Rw σ R) (hR2 : R.length + 50 ≤ 20400) (hQ : ∀ τ, FrI [391, 415] σ τ → (∀ j, j ≠ 30 → τ.1 391 j = σ.1 391 j) → Rw τ (R ++ (nI (300 + k) :: l)) → Q none Γ τ) : Ct G M_Mo_putCall (d + 1) 0 0 [rf G 391, .int (nI k)] Γ σ Q := by
  have lp : ∀ (f i : Nat) (τ : Mem), i ≤ l.length → l.length < i + f → FrI [391, 415] σ τ → (∀ j, j ≠ 30 → τ.1 391 j = σ.1 391 j) → Rw τ (R ++ [nI (300 + k)] ++ l.take i) → Wq G M_Mo_putCall (Em G (d + 1) 0 0 Q) 0 0 11 [some (rf G 391), some (.int (nI k)), some (.int (nI i))] [] [] Γ τ := by
    intro f
    induction f with
    | zero => intro i τ hi hf; omega
    | succ f ih =>
    intro i τ hi hf f0 h2 h3
    have hM := hM.fr f0
    refine x_iload_n d_Mo_putCall_11 rfl rfl ?_
    first | refine x_aload_n d_Mo_putCall_12 rfl rfl ?_ | refine x_aloadN_n d_Mo_putCall_12 rfl rfl ?_ | refine x_aloadE_n d_Mo_putCall_12 rfl rfl ?_ | refine x_aloadO_n d_Mo_putCall_12 rfl rfl ?_
    refine x_getR d_Mo_putCall_13 f_Mo_71 rfl (by first | exact hM.1 | exact hM.s rfl | assumption) (hM.r rfl) ?_
    refine x_iload_n d_Mo_putCall_16 rfl rfl ?_
    refine x_iald d_Mo_putCall_17 (by first | exact hM.1 | exact hM.s rfl | assumption) (vp_in_nI hk (by decide)) ?_
    rw [nI_clamp (by omega), f0.2 412 (by simp), hl]
    refine x_icmp_ge (tgt := 42) d_Mo_putCall_18 (by decide) (fun c18 => ?_) (fun c18 => ?_)
    · have e : i = l.length := by have := (nI_leI (by omega) (by omega)).mp c18; omega
      rw [e, List.take_length] at h3
      exact x_return d_Mo_putCall_42 rfl (hQ τ f0 h2 (by rw [List.append_assoc] at h3; exact h3))
    · have hil : i < l.length := Nat.not_le.mp fun z => c18 (nI_le z (by omega))
      first | refine x_aload_n d_Mo_putCall_21 rfl rfl ?_ | refine x_aloadN_n d_Mo_putCall_21 rfl rfl ?_ | refine x_aloadE_n d_Mo_putCall_21 rfl rfl ?_ | refine x_aloadO_n d_Mo_putCall_21 rfl rfl ?_
      first | refine x_aload_n d_Mo_putCall_22 rfl rfl ?_ | refine x_aloadN_n d_Mo_putCall_22 rfl rfl ?_ | refine x_aloadE_n d_Mo_putCall_22 rfl rfl ?_ | refine x_aloadO_n d_Mo_putCall_22 rfl rfl ?_
      refine x_getR d_Mo_putCall_23 f_Mo_68 rfl (by first | exact hM.1 | exact hM.s rfl | assumption) (hM.r rfl) ?_
      refine x_bipush (v := 40) d_Mo_putCall_26 (by decide) ?_
      refine x_iload_n d_Mo_putCall_28 rfl rfl ?_
      refine x_imul d_Mo_putCall_29 ?_
      first | rw [mul40] | rw [mul24] | rw [mul100] | rw [mul7] | skip
      refine x_iload_n d_Mo_putCall_30 rfl rfl ?_
      refine x_iadd d_Mo_putCall_31 ?_
      first | rw [nI_add] | rw [nI_1] | skip
      refine x_iald d_Mo_putCall_32 (by first | exact hM.1 | exact hM.s rfl | assumption) (vp_in_nI (show 40 * k + i < 1920 by omega) (by decide)) ?_
      rw [nI_clamp (by omega), f0.2 411 (by simp), hs i hil]
      refine x_callV1 d_Mo_putCall_33 k_Mo_put l_Mo_272 v_Mo_put rfl s_Mo_put (by first | exact hM.1 | exact hM.s rfl | assumption) RoomE.m (Nat.le_of_ble_eq_true rfl) (c_Mo_put hM h3.1 (by rw [List.length_append, List.length_append, List.length_take]; simp only [List.length_singleton]; omega) ?_)
      refine x_iinc (v := nI (i + 1)) d_Mo_putCall_36 rfl (nI_1 i) rfl ?_
      refine x_goto (tgt := 11) d_Mo_putCall_39 (by decide) ?_
      exact Wq.fg (ih (i + 1) _ (by omega) (by omega) ((f0.put (by simp)).put (by simp)) (fun j hj => by rw [wI_j hj, wI_o (by decide)]; exact h2 j hj) (h3.put' (by rw [take_s hil, List.append_assoc (R ++ [nI (300 + k)])]))) ⟨rfl, rfl, rfl, trivial⟩
  refine Ct.of (lv := [some (rf G 391), some (.int (nI k)), none]) (ll := []) rfl rfl (EN.cat (n := 1) ⟨rfl, rfl, trivial⟩ (Nat.le_of_ble_eq_true rfl)) ?_
  first | refine x_aload_n d_Mo_putCall_0 rfl rfl ?_ | refine x_aloadN_n d_Mo_putCall_0 rfl rfl ?_ | refine x_aloadE_n d_Mo_putCall_0 rfl rfl ?_ | refine x_aloadO_n d_Mo_putCall_0 rfl rfl ?_
  refine x_sipush (v := 300) d_Mo_putCall_1 (by decide) ?_
  refine x_iload_n d_Mo_putCall_4 rfl rfl ?_
  refine x_iadd d_Mo_putCall_5 ?_
  first | rw [nI_add] | rw [nI_1] | skip
  refine Wq.top (y := nI (300 + k)) (by first | exact nI_add 300 k | rfl) ?_
  refine x_callV1 d_Mo_putCall_6 k_Mo_put l_Mo_272 v_Mo_put rfl s_Mo_put (by first | exact hM.1 | exact hM.s rfl | assumption) RoomE.m (Nat.le_of_ble_eq_true rfl) (c_Mo_put hM hR.1 (by omega) ?_)
  refine x_iconst (v := 0) d_Mo_putCall_9 (by decide) ?_
  refine x_istore_n d_Mo_putCall_10 rfl rfl ?_
  exact Wq.fg (lp (l.length + 1) 0 _ (by omega) (by omega) ((FrI.rf.put (by simp)).put (by simp)) (fun j hj => by rw [wI_j hj, wI_o (by decide)]) (by rw [List.take_zero, List.append_nil]; exact hR.put)) ⟨rfl, rfl, by rw [nI_0], trivial⟩
def lE (fv : Int32) (q : Int32) (ρ : Nat → List Int32) (b : Nat) (s : Int32) : List Int32 := if s < 100 ∧ 0 ≤ s - fv ∧ s - fv < q then ρ (b + 1 + (s - fv).toNatClampNeg) else [s]
def wO (fn : Nat → Bool) (P ρ : Nat → List Int32) (T : TS) (n b c u : Nat) (fv : Int32) : List Int32 :=
  if fn n = true then nI (300 + n) :: P n
  else if kd T n = 1 then tmn T n
  else if kd T n = 5 then [400]
  else if kd T n = 2 then (tmn T n).getD 0 (-1) :: (List.range c).flatMap (fun i => ρ (b + i))
  else if kd T n = 3 then ρ b
  else if kd T n = 6 then nI (300 + u) :: (P u).map (fun s => mpI (tmn T u) (tmn T n) (tmn T u).length s.toNatClampNeg)
  else (ρ b).flatMap (lE fv (dt T n) ρ b)
theorem flat_le {l : List Int32} {f : Int32 → List Int32} {m : Nat} (h : ∀ s ∈ l, (f s).length ≤ m) : (l.flatMap f).length ≤ l.length * m := by
  induction l with
  | nil => simp
  | cons x l ih =>
    have h1 := h x (by simp)
    have h2 := ih (fun s hs => h s (by simp [hs]))
    rw [List.flatMap_cons, List.length_append, List.length_cons, Nat.succ_mul]
    omega
theorem flat_s {l : List Int32} {f : Int32 → List Int32} {i : Nat} (h : i < l.length) : (l.take (i + 1)).flatMap f = (l.take i).flatMap f ++ f (l.getD i (-1)) := by
  rw [take_s h, List.flatMap_append]
  simp
theorem range_s {c : Nat} {f : Nat → List Int32} : (List.range (c + 1)).flatMap f = (List.range c).flatMap f ++ f c := by
  rw [List.range_succ, List.flatMap_append]
  simp
theorem mapx {l : List Int32} {f : Int32 → Int32} {r : Nat} (h : r < l.length) : ((l.map f).take r ++ l.drop r).getD r (-1) = l.getD r (-1) := by
  simp only [List.getD_eq_getElem?_getD]
  rw [List.getElem?_append_right (by rw [List.length_take, List.length_map]; omega), List.length_take, List.length_map, Nat.min_eq_left (by omega), Nat.sub_self, List.getElem?_drop, Nat.add_zero]
theorem mapy {l : List Int32} {f : Int32 → Int32} {r j : Nat} (h : r < l.length) : ((l.map f).take (r + 1) ++ l.drop (r + 1)).getD j (-1) = if j = r then f (l.getD r (-1)) else ((l.map f).take r ++ l.drop r).getD j (-1) := by
  simp only [List.getD_eq_getElem?_getD]
  by_cases h1 : j < r
  · rw [if_neg (by omega), List.getElem?_append_left (by rw [List.length_take, List.length_map]; omega), List.getElem?_append_left (by rw [List.length_take, List.length_map]; omega), List.getElem?_take_of_lt (by omega), List.getElem?_take_of_lt h1]
  · by_cases h2 : j = r
    · subst h2
      rw [if_pos rfl, List.getElem?_append_left (by rw [List.length_take, List.length_map]; omega), List.getElem?_take_of_lt (by omega), List.getElem?_map]
      rw [List.getElem?_eq_getElem h]
      rfl
    · rw [if_neg h2, List.getElem?_append_right (by rw [List.length_take, List.length_map]; omega), List.getElem?_append_right (by rw [List.length_take, List.length_map]; omega), List.length_take, List.length_take, List.length_map, Nat.min_eq_left (by omega), Nat.min_eq_left (by omega), List.getElem?_drop, List.getElem?_drop]
      congr 2
      omega
set_option maxRecDepth 10000 in
set_option maxHeartbeats 1000000 in
theorem c_Mo_write {G : Ctx} {d : Nat} {Γ : List Sh} {σ : Mem} {Q : Option Value → List Sh → Mem → Prop} {pt : Nat → Int32} {cs : Nat → Bool} {T : TS} {n b c u : Nat} {fn : Nat → Bool} {P ρ : Nat → List Int32} (hM : MoS Γ σ) (hS : SW pt cs) (hp : ∀ f, f < 8 → σ.1 393 f = pt (200 + f)) (hR : Rt σ T none) (hW : WF pt T none) (hG : WG T) (hn : n < tN T) (h0 : kd T n ≠ 0) (h8 : kd T n ≠ 8) (hF : ∀ m, m < tN T → σ.1 410 m = bI (fn m) ∧ σ.1 412 m = nI (P m).length ∧ seg σ 411 (40 * m) (P m) ∧ (P m).length ≤ 40 ∧ ∀ s ∈ P m, ∃ k, k < 100 ∧ s = nI k) (hf4 : kd T n = 4 → fn n = true) (hρ : ∀ k, n < k → k < tN T → kd T k ≠ 0 → σ.1 414 k = nI (ρ k).length ∧ seg σ 413 (100 * k) (ρ k) ∧ (ρ k).length ≤ 100) (hC : kd T n = 2 ∨ kd T n = 3 ∨ kd T n = 4 ∨ kd T n = 7 → Ch T n b c ∧ EV (sgP pt) T n b c) (hu : kd T n = 6 → lkn T n 9 = some u) (hQ1 : 100 < (wO fn P ρ T n b c u (σ.1 407 n)).length → ∀ τ, FrI [391, 415, 419, 420] σ τ → τ.1 391 12 = 1 → (∀ j, j ≠ 12 → j ≠ 30 → τ.1 391 j = σ.1 391 j) → Q none Γ τ) (hQ2 : ¬ 100 < (wO fn P ρ T n b c u (σ.1 407 n)).length → ∀ τ, FrI [391, 413, 414, 415, 419, 420] σ τ → (∀ j, j ≠ 12 → j ≠ 30 → τ.1 391 j = σ.1 391 j) → τ.1 391 12 = 0 → τ.1 414 n = nI (wO fn P ρ T n b c u (σ.1 407 n)).length → (∀ m, m ≠ n → τ.1 414 m = σ.1 414 m) → seg τ 413 (100 * n) (wO fn P ρ T n b c u (σ.1 407 n)) → (∀ q, q < 100 * n ∨ 100 * n + 100 ≤ q → τ.1 413 q = σ.1 413 q) → Q none Γ τ) : Ct G M_Mo_write (d + 2) 0 0 [rf G 391, .int (nI n)] Γ σ Q := by
  have hN48 := hW.1.1
  have hn48 : n < 48 := by omega
  have hRC := (hR.2.2.2 n hn).2 (fun z => by cases z)
  have f00 : FrI [391] σ (wI σ 391 30 0) := FrI.rf.put (by simp)
  have r00 : Rw (wI σ 391 30 0) [] := ⟨by rw [wI_s]; rfl, seg.nil⟩
  have hz0 : 0 < (tmn T n).length := full_ne (hW.2.2 n hn).1.1.1
  have l364 : ∀ (υ : Mem) (W : List Int32) (o3 : Option Value), W.length ≤ 100 → υ.1 391 30 = nI W.length → (∀ τ, FrI [413] υ τ → (∀ j, τ.1 391 j = υ.1 391 j) → (∀ j, τ.1 414 j = υ.1 414 j) → (∀ j, j < W.length → τ.1 413 (100 * n + j) = W.getD j (-1)) → (∀ q, q < 100 * n ∨ 100 * n + 100 ≤ q → τ.1 413 q = υ.1 413 q) → Q none Γ τ) → MoS Γ υ → ∀ (f i : Nat) (τ : Mem), i ≤ W.length → W.length < i + f → FrI [413] υ τ → (∀ j, τ.1 391 j = υ.1 391 j) → (∀ j, τ.1 414 j = υ.1 414 j) → (∀ j, j < W.length → τ.1 415 j = W.getD j (-1)) → (∀ j, j < i → τ.1 413 (100 * n + j) = W.getD j (-1)) → (∀ q, q < 100 * n ∨ 100 * n + 100 ≤ q → τ.1 413 q = υ.1 413 q) → Wq G M_Mo_write (Em G (d + 2) 0 0 Q) 0 0 364 [some (rf G 391), some (.int (nI n)), some (.int (nI i)), o3] [] [] Γ τ := by
    intro υ W o3 hW100 hrow hend hMυ f
    induction f with
    | zero => intro i τ hi hf; omega
    | succ f ih =>
    intro i τ hi hf f0 h391 h414 h415 h3 h413
    have hM := hMυ.fr f0
    have hrs : τ.1 391 30 = nI W.length := by rw [h391]; exact hrow
    refine x_iload_n d_Mo_write_364 rfl rfl ?_
    first | refine x_aload_n d_Mo_write_365 rfl rfl ?_ | refine x_aloadN_n d_Mo_write_365 rfl rfl ?_ | refine x_aloadE_n d_Mo_write_365 rfl rfl ?_ | refine x_aloadO_n d_Mo_write_365 rfl rfl ?_
    refine x_getI d_Mo_write_366 f_Mo_157 rfl (by first | exact hM.1 | exact hM.s rfl | assumption) ?_
    rw [hrs]
    refine x_icmp_ge (tgt := 395) d_Mo_write_369 (by decide) (fun c369 => ?_) (fun c369 => ?_)
    · have e : i = W.length := by have := (nI_leI (by omega) (by omega)).mp c369; omega
      subst e
      exact x_return d_Mo_write_395 rfl (hend τ f0 h391 h414 h3 h413)
    · have hil : i < W.length := Nat.not_le.mp fun z => c369 (nI_le z (by omega))
      first | refine x_aload_n d_Mo_write_372 rfl rfl ?_ | refine x_aloadN_n d_Mo_write_372 rfl rfl ?_ | refine x_aloadE_n d_Mo_write_372 rfl rfl ?_ | refine x_aloadO_n d_Mo_write_372 rfl rfl ?_
      refine x_getR d_Mo_write_373 f_Mo_74 rfl (by first | exact hM.1 | exact hM.s rfl | assumption) (hM.r rfl) ?_
      refine x_bipush (v := 100) d_Mo_write_376 (by decide) ?_
      refine x_iload_n d_Mo_write_378 rfl rfl ?_
      refine x_imul d_Mo_write_379 ?_
      first | rw [mul40] | rw [mul24] | rw [mul100] | rw [mul7] | skip
      refine x_iload_n d_Mo_write_380 rfl rfl ?_
      refine x_iadd d_Mo_write_381 ?_
      first | rw [nI_add] | rw [nI_1] | skip
      first | refine x_aload_n d_Mo_write_382 rfl rfl ?_ | refine x_aloadN_n d_Mo_write_382 rfl rfl ?_ | refine x_aloadE_n d_Mo_write_382 rfl rfl ?_ | refine x_aloadO_n d_Mo_write_382 rfl rfl ?_
      refine x_getR d_Mo_write_383 f_Mo_80 rfl (by first | exact hM.1 | exact hM.s rfl | assumption) (hM.r rfl) ?_
      refine x_iload_n d_Mo_write_386 rfl rfl ?_
      refine x_iald d_Mo_write_387 (by first | exact hM.1 | exact hM.s rfl | assumption) (vp_in_nI (show i < 20400 by omega) (by decide)) ?_
      rw [nI_clamp (by omega), h415 i hil]
      refine x_iast d_Mo_write_388 (by first | exact hM.1 | exact hM.s rfl | assumption) (vp_in_nI (show 100 * n + i < 4800 by omega) (by decide)) ?_
      rw [nI_clamp (by omega)]
      refine x_iinc (v := nI (i + 1)) d_Mo_write_389 rfl (nI_1 i) rfl ?_
      refine x_goto (tgt := 364) d_Mo_write_392 (by decide) ?_
      exact Wq.fg (ih (i + 1) _ (by omega) (by omega) (f0.put (by simp)) (fun j => by rw [wI_o (by decide)]; exact h391 j) (fun j => by rw [wI_o (by decide)]; exact h414 j) (fun j hj => by rw [wI_o (by decide)]; exact h415 j hj) (fun j hj => by
        by_cases e : j = i
        · rw [e, wI_s]
        · rw [wI_j (by omega)]; exact h3 j (by omega)) (fun q hq => by rw [wI_j (by omega)]; exact h413 q hq)) ⟨rfl, rfl, rfl, lsub_rf⟩
  have j319 : ∀ (τ : Mem) (W : List Int32) (o2 o3 : Option Value), FrI [391, 415, 419, 420] σ τ → (∀ j, j ≠ 30 → τ.1 391 j = σ.1 391 j) → Rw τ W → W = (wO fn P ρ T n b c u (σ.1 407 n)) → W.length ≤ 20400 → Wq G M_Mo_write (Em G (d + 2) 0 0 Q) 0 0 319 [some (rf G 391), some (.int (nI n)), o2, o3] [] [] Γ τ := by
    intro τ W o2 o3 f0 h2 h3 hW hWl
    have hM := hM.fr f0
    have hg0 : τ.1 391 12 = 0 := by rw [h2 12 (by decide)]; exact hR.1
    first | refine x_aload_n d_Mo_write_319 rfl rfl ?_ | refine x_aloadN_n d_Mo_write_319 rfl rfl ?_ | refine x_aloadE_n d_Mo_write_319 rfl rfl ?_ | refine x_aloadO_n d_Mo_write_319 rfl rfl ?_
    first | refine x_aload_n d_Mo_write_320 rfl rfl ?_ | refine x_aloadN_n d_Mo_write_320 rfl rfl ?_ | refine x_aloadE_n d_Mo_write_320 rfl rfl ?_ | refine x_aloadO_n d_Mo_write_320 rfl rfl ?_
    refine x_getI d_Mo_write_321 f_Mo_177 rfl (by first | exact hM.1 | exact hM.s rfl | assumption) ?_
    rw [hg0]
    refine x_if_ne (tgt := 336) d_Mo_write_324 (by decide) (fun c324 => ?_) (fun c324 => ?_)
    · exact absurd rfl c324
    · first | refine x_aload_n d_Mo_write_327 rfl rfl ?_ | refine x_aloadN_n d_Mo_write_327 rfl rfl ?_ | refine x_aloadE_n d_Mo_write_327 rfl rfl ?_ | refine x_aloadO_n d_Mo_write_327 rfl rfl ?_
      refine x_getI d_Mo_write_328 f_Mo_157 rfl (by first | exact hM.1 | exact hM.s rfl | assumption) ?_
      refine x_bipush (v := 100) d_Mo_write_331 (by decide) ?_
      rw [h3.1]
      refine x_icmp_le (tgt := 340) d_Mo_write_333 (by decide) (fun c333 => ?_) (fun c333 => ?_)
      · have hsm : W.length ≤ 100 := (nI_leI (by omega) (by decide)).mp (show nI W.length ≤ nI 100 from c333)
        refine x_iconst (v := 0) d_Mo_write_340 (by decide) ?_
        refine x_putI d_Mo_write_341 (w_Mo_m_177 _) rfl (by first | rfl | decide) (by first | rfl | decide) (by first | exact hM.1 | exact hM.s rfl | assumption) ?_
        first | refine x_aload_n d_Mo_write_344 rfl rfl ?_ | refine x_aloadN_n d_Mo_write_344 rfl rfl ?_ | refine x_aloadE_n d_Mo_write_344 rfl rfl ?_ | refine x_aloadO_n d_Mo_write_344 rfl rfl ?_
        refine x_getI d_Mo_write_345 f_Mo_177 rfl (by first | exact hM.1 | exact hM.s rfl | assumption) ?_
        rw [wI_s]
        refine x_if_eq (tgt := 352) d_Mo_write_348 (by decide) (fun c348 => ?_) (fun c348 => ?_)
        · first | refine x_aload_n d_Mo_write_352 rfl rfl ?_ | refine x_aloadN_n d_Mo_write_352 rfl rfl ?_ | refine x_aloadE_n d_Mo_write_352 rfl rfl ?_ | refine x_aloadO_n d_Mo_write_352 rfl rfl ?_
          refine x_getR d_Mo_write_353 f_Mo_77 rfl (by first | exact hM.1 | exact hM.s rfl | assumption) (hM.r rfl) ?_
          refine x_iload_n d_Mo_write_356 rfl rfl ?_
          first | refine x_aload_n d_Mo_write_357 rfl rfl ?_ | refine x_aloadN_n d_Mo_write_357 rfl rfl ?_ | refine x_aloadE_n d_Mo_write_357 rfl rfl ?_ | refine x_aloadO_n d_Mo_write_357 rfl rfl ?_
          refine x_getI d_Mo_write_358 f_Mo_157 rfl (by first | exact hM.1 | exact hM.s rfl | assumption) ?_
          refine x_iast d_Mo_write_361 (by first | exact hM.1 | exact hM.s rfl | assumption) (vp_in_nI hn48 (by decide)) ?_
          rw [nI_clamp (by omega), wI_j (by decide), h3.1]
          refine x_iconst (v := 0) d_Mo_write_362 (by decide) ?_
          refine x_istore_n d_Mo_write_363 rfl rfl ?_
          refine Wq.fg (l364 _ W o3 hsm (by rw [wI_o (by decide), wI_j (by decide)]; exact h3.1) (fun τ1 f1 g1 g2 g3 g4 => hQ2 (by rw [← hW]; exact Nat.not_lt.mpr hsm) τ1 ?_ (fun j h12 h30 => ?_) ?_ ?_ (fun m hm => ?_) ?_ (fun q hq => ?_)) (hM.w.w) (W.length + 1) 0 _ (by omega) (by omega) FrI.rf (fun _ => rfl) (fun _ => rfl) (fun j hj => ?_) (fun j hj => absurd hj (Nat.not_lt_zero _)) (fun _ _ => rfl)) ⟨rfl, rfl, by rw [nI_0], lsub_rf⟩
          · exact (((f0.mono (by simp)).put (by simp)).put (by simp)).tr (f1.mono (by simp))
          · rw [g1, wI_o (by decide), wI_j h12]; exact h2 j h30
          · rw [g1, wI_o (by decide), wI_s]
          · rw [g2, wI_s, hW]
          · rw [g2, wI_j hm, wI_o (by decide)]; exact (congrFun (f0.2 414 (by simp)) m)
          · rw [← hW]; exact g3
          · rw [g4 q hq, wI_o (by decide), wI_o (by decide)]; exact (congrFun (f0.2 413 (by simp)) q)
          · rw [wI_o (by decide), wI_o (by decide)]; have := h3.2 j hj; rw [Nat.zero_add] at this; exact this
        · exact absurd rfl c348
      · have hbig : 100 < (wO fn P ρ T n b c u (σ.1 407 n)).length := by rw [← hW]; exact (nI_ltI (by decide) (by omega)).mp (show nI 100 < nI W.length from Int32.not_le.mp c333)
        refine x_iconst (v := 1) d_Mo_write_336 (by decide) ?_
        refine x_goto (tgt := 341) d_Mo_write_337 (by decide) ?_
        refine x_putI d_Mo_write_341 (w_Mo_m_177 _) rfl (by first | rfl | decide) (by first | rfl | decide) (by first | exact hM.1 | exact hM.s rfl | assumption) ?_
        first | refine x_aload_n d_Mo_write_344 rfl rfl ?_ | refine x_aloadN_n d_Mo_write_344 rfl rfl ?_ | refine x_aloadE_n d_Mo_write_344 rfl rfl ?_ | refine x_aloadO_n d_Mo_write_344 rfl rfl ?_
        refine x_getI d_Mo_write_345 f_Mo_177 rfl (by first | exact hM.1 | exact hM.s rfl | assumption) ?_
        rw [wI_s]
        refine x_if_eq (tgt := 352) d_Mo_write_348 (by decide) (fun c348 => ?_) (fun c348 => ?_)
        · exact absurd c348 (by decide)
        · exact x_return d_Mo_write_351 rfl (hQ1 hbig _ ((f0.put (by simp)).mono (by simp)) wI_s (fun j h12 h30 => by rw [wI_j h12]; exact h2 j h30))
  have l85 : ∀ (o3 : Option Value), kd T n = 2 → ¬ fn n = true → ∀ (f i : Nat) (τ : Mem), i ≤ c → c < i + f → FrI [391, 415, 419, 420] σ τ → (∀ j, j ≠ 30 → τ.1 391 j = σ.1 391 j) → Rw τ ((tmn T n).getD 0 (-1) :: (List.range i).flatMap (fun i => ρ (b + i))) → ((tmn T n).getD 0 (-1) :: (List.range i).flatMap (fun i => ρ (b + i))).length ≤ 1 + 100 * i → Wq G M_Mo_write (Em G (d + 2) 0 0 Q) 0 0 85 [some (rf G 391), some (.int (nI n)), some (.int (nI i)), o3] [] [] Γ τ := by
    intro o3 hk2 hfn
    obtain ⟨hCh, hEV⟩ := hC (Or.inl hk2)
    obtain ⟨hR6, hR5, -, -⟩ := hRC (Or.inl hk2) b c hCh
    have hkid : ∀ i, i < c → b + i < 48 ∧ σ.1 414 (b + i) = nI (ρ (b + i)).length ∧ seg σ 413 (100 * (b + i)) (ρ (b + i)) ∧ (ρ (b + i)).length ≤ 100 := fun i hi => ⟨by have := hCh.2.1; omega, hρ (b + i) (by have := hCh.1; omega) (by have := hCh.2.1; omega) (hG.ch hCh h0 hi)⟩
    have hc48 : c ≤ 48 := by have := hCh.2.1; omega
    intro f
    induction f with
    | zero => intro i τ hi hf; omega
    | succ f ih =>
    intro i τ hi hf f0 h2 h3 h4
    have hM := hM.fr f0
    refine x_iload_n d_Mo_write_85 rfl rfl ?_
    first | refine x_aload_n d_Mo_write_86 rfl rfl ?_ | refine x_aloadN_n d_Mo_write_86 rfl rfl ?_ | refine x_aloadE_n d_Mo_write_86 rfl rfl ?_ | refine x_aloadO_n d_Mo_write_86 rfl rfl ?_
    refine x_getR d_Mo_write_87 f_Mo_53 rfl (by first | exact hM.1 | exact hM.s rfl | assumption) (hM.r rfl) ?_
    refine x_iload_n d_Mo_write_90 rfl rfl ?_
    refine x_iald d_Mo_write_91 (by first | exact hM.1 | exact hM.s rfl | assumption) (vp_in_nI hn48 (by decide)) ?_
    rw [nI_clamp (by omega), f0.2 406 (by simp), hR6]
    refine x_icmp_ge (tgt := 113) d_Mo_write_92 (by decide) (fun c92 => ?_) (fun c92 => ?_)
    · have e : i = c := by have := (nI_leI (by omega) (by omega)).mp c92; omega
      subst e
      refine x_goto (tgt := 319) d_Mo_write_113 (by decide) ?_
      exact j319 τ _ _ _ f0 h2 h3 (by unfold wO; rw [if_neg hfn, if_neg (by rw [hk2]; decide), if_neg (by rw [hk2]; decide), if_pos hk2]) (by omega)
    · have hic : i < c := Nat.not_le.mp fun z => c92 (nI_le z (by omega))
      have hck := hkid i hic
      first | refine x_aload_n d_Mo_write_95 rfl rfl ?_ | refine x_aloadN_n d_Mo_write_95 rfl rfl ?_ | refine x_aloadE_n d_Mo_write_95 rfl rfl ?_ | refine x_aloadO_n d_Mo_write_95 rfl rfl ?_
      first | refine x_aload_n d_Mo_write_96 rfl rfl ?_ | refine x_aloadN_n d_Mo_write_96 rfl rfl ?_ | refine x_aloadE_n d_Mo_write_96 rfl rfl ?_ | refine x_aloadO_n d_Mo_write_96 rfl rfl ?_
      refine x_getR d_Mo_write_97 f_Mo_50 rfl (by first | exact hM.1 | exact hM.s rfl | assumption) (hM.r rfl) ?_
      refine x_iload_n d_Mo_write_100 rfl rfl ?_
      refine x_iald d_Mo_write_101 (by first | exact hM.1 | exact hM.s rfl | assumption) (vp_in_nI hn48 (by decide)) ?_
      rw [nI_clamp (by omega), f0.2 405 (by simp), hR5 (by omega)]
      refine x_iload_n d_Mo_write_102 rfl rfl ?_
      refine x_iadd d_Mo_write_103 ?_
      first | rw [nI_add] | rw [nI_1] | skip
      refine x_callV1 d_Mo_write_104 k_Mo_putResidual l_Mo_278 v_Mo_putResidual rfl s_Mo_putResidual (by first | exact hM.1 | exact hM.s rfl | assumption) RoomE.m (Nat.le_of_ble_eq_true rfl) (c_Mo_putResidual hM (by omega) (by rw [f0.2 414 (by simp)]; exact hck.2.1) (hck.2.2.1.fr f0 (by simp)) hck.2.2.2 h3 (by omega) (fun τ1 f1 g1 g2 => ?_))
      refine x_iinc (v := nI (i + 1)) d_Mo_write_107 rfl (nI_1 i) rfl ?_
      refine x_goto (tgt := 85) d_Mo_write_110 (by decide) ?_
      exact Wq.fg (ih (i + 1) τ1 (by omega) (by omega) (f0.tr (f1.mono (by simp))) (fun j hj => (g1 j hj).trans (h2 j hj)) (by rw [range_s, ← List.cons_append]; exact g2) (by rw [range_s, List.length_cons, List.length_append]; have := hck.2.2.2; simp only [List.length_cons] at h4; omega)) ⟨rfl, rfl, rfl, lsub_rf⟩
  have l174 : kd T n = 6 → ¬ fn n = true → u < tN T → ∀ (σ1 : Mem), FrI [391, 415, 419, 420] σ σ1 → (∀ v, v < 100 → σ1.1 419 v = mpI (tmn T u) (tmn T n) (tmn T u).length v) → ∀ (f r : Nat) (τ : Mem), r ≤ (P u).length → (P u).length < r + f → FrI [391, 415] σ1 τ → (∀ j, j ≠ 30 → τ.1 391 j = σ.1 391 j) → Rw τ (nI (300 + u) :: (((P u).map (fun s => mpI (tmn T u) (tmn T n) (tmn T u).length s.toNatClampNeg)).take r ++ (P u).drop r)) → Wq G M_Mo_write (Em G (d + 2) 0 0 Q) 0 0 174 [some (rf G 391), some (.int (nI n)), some (.int (bI true)), some (.int (nI (r + 1)))] [] [] Γ τ := by
    intro hk6 hfn huN σ1 f1' h419
    have hPu := hF u huN
    have hPl := hPu.2.2.2.1
    have hM := hM.fr f1'
    intro f
    induction f with
    | zero => intro r τ hi hf; omega
    | succ f ih =>
    intro r τ hi hf f0 h2 h3
    have f1' := f1'.tr (f0.mono (by simp))
    have f0' := f0
    have hM := hM.fr f0
    refine x_iload_n d_Mo_write_174 rfl rfl ?_
    first | refine x_aload_n d_Mo_write_175 rfl rfl ?_ | refine x_aloadN_n d_Mo_write_175 rfl rfl ?_ | refine x_aloadE_n d_Mo_write_175 rfl rfl ?_ | refine x_aloadO_n d_Mo_write_175 rfl rfl ?_
    refine x_getI d_Mo_write_176 f_Mo_157 rfl (by first | exact hM.1 | exact hM.s rfl | assumption) ?_
    rw [h3.1]
    refine x_icmp_ge (tgt := 209) d_Mo_write_179 (by decide) (fun c179 => ?_) (fun c179 => ?_)
    · have e : r = (P u).length := by
        have := (nI_leI (by simp only [List.length_cons, List.length_append, List.length_take, List.length_map, List.length_drop]; omega) (by omega)).mp c179
        simp only [List.length_cons, List.length_append, List.length_take, List.length_map, List.length_drop] at this
        omega
      subst e
      refine x_goto (tgt := 319) d_Mo_write_209 (by decide) ?_
      refine j319 τ _ _ _ f1' h2 h3 ?_ (by simp only [List.length_cons, List.length_append, List.length_take, List.length_map, List.length_drop]; omega)
      unfold wO
      rw [if_neg hfn, if_neg (by rw [hk6]; decide), if_neg (by rw [hk6]; decide), if_neg (by rw [hk6]; decide), if_neg (by rw [hk6]; decide), if_pos hk6, List.take_of_length_le (by rw [List.length_map]; exact Nat.le_refl _), List.drop_length, List.append_nil]
    · refine x_iload_n d_Mo_write_182 rfl rfl ?_
      skip
      refine x_if_eq (tgt := 209) d_Mo_write_183 (by decide) (fun c183 => ?_) (fun c183 => ?_)
      · exact absurd c183 (by decide)
      · have hil : r < (P u).length := by
          refine Nat.not_le.mp fun z => c179 (nI_le ?_ (by omega))
          simp only [List.length_cons, List.length_append, List.length_take, List.length_map, List.length_drop]
          omega
        obtain ⟨k, hk, ek⟩ := hPu.2.2.2.2 _ (getD_mem hil)
        have erow : τ.1 415 (r + 1) = nI k := by
          have := h3.2 (r + 1) (by simp only [List.length_cons, List.length_append, List.length_take, List.length_map, List.length_drop]; omega)
          rw [Nat.zero_add, List.getD_cons_succ, mapx hil, ek] at this
          exact this
        first | refine x_aload_n d_Mo_write_186 rfl rfl ?_ | refine x_aloadN_n d_Mo_write_186 rfl rfl ?_ | refine x_aloadE_n d_Mo_write_186 rfl rfl ?_ | refine x_aloadO_n d_Mo_write_186 rfl rfl ?_
        refine x_getR d_Mo_write_187 f_Mo_80 rfl (by first | exact hM.1 | exact hM.s rfl | assumption) (hM.r rfl) ?_
        refine x_iload_n d_Mo_write_190 rfl rfl ?_
        first | refine x_aload_n d_Mo_write_191 rfl rfl ?_ | refine x_aloadN_n d_Mo_write_191 rfl rfl ?_ | refine x_aloadE_n d_Mo_write_191 rfl rfl ?_ | refine x_aloadO_n d_Mo_write_191 rfl rfl ?_
        refine x_getR d_Mo_write_192 f_Mo_92 rfl (by first | exact hM.1 | exact hM.s rfl | assumption) (hM.r rfl) ?_
        first | refine x_aload_n d_Mo_write_195 rfl rfl ?_ | refine x_aloadN_n d_Mo_write_195 rfl rfl ?_ | refine x_aloadE_n d_Mo_write_195 rfl rfl ?_ | refine x_aloadO_n d_Mo_write_195 rfl rfl ?_
        refine x_getR d_Mo_write_196 f_Mo_80 rfl (by first | exact hM.1 | exact hM.s rfl | assumption) (hM.r rfl) ?_
        refine x_iload_n d_Mo_write_199 rfl rfl ?_
        refine x_iald d_Mo_write_200 (by first | exact hM.1 | exact hM.s rfl | assumption) (vp_in_nI (show r + 1 < 20400 by omega) (by decide)) ?_
        rw [nI_clamp (by omega), erow]
        refine x_iald d_Mo_write_201 (by first | exact hM.1 | exact hM.s rfl | assumption) (vp_in_nI hk (by decide)) ?_
        rw [nI_clamp (by omega), f0.2 419 (by simp), h419 k hk]
        refine x_iast d_Mo_write_202 (by first | exact hM.1 | exact hM.s rfl | assumption) (vp_in_nI (show r + 1 < 20400 by omega) (by decide)) ?_
        rw [nI_clamp (by omega)]
        refine x_iinc (v := nI (r + 1 + 1)) d_Mo_write_203 rfl (nI_1 (r + 1)) rfl ?_
        refine x_goto (tgt := 174) d_Mo_write_206 (by decide) ?_
        refine Wq.fg (ih (r + 1) _ (by omega) (by omega) (f0.put (by simp)) (fun j hj => by rw [wI_o (by decide)]; exact h2 j hj) ⟨?_, fun j hj => ?_⟩) ⟨rfl, rfl, rfl, rfl, trivial⟩
        · rw [wI_o (by decide), h3.1]
          simp only [List.length_cons, List.length_append, List.length_take, List.length_map, List.length_drop]
          congr 1
          omega
        · rw [Nat.zero_add]
          have hj0 : j < (P u).length + 1 := by
            simp only [List.length_cons, List.length_append, List.length_take, List.length_map, List.length_drop] at hj
            omega
          have hj1 := h3.2 j (by simp only [List.length_cons, List.length_append, List.length_take, List.length_map, List.length_drop]; omega)
          rw [Nat.zero_add] at hj1
          cases j with
          | zero => rw [wI_j (by omega), hj1]; rfl
          | succ j =>
            rw [List.getD_cons_succ] at hj1 ⊢
            rw [mapy hil]
            by_cases e : j = r
            · subst e
              rw [wI_s, if_pos rfl, ek]
              congr 1
              exact (nI_clamp (by omega)).symm
            · rw [wI_j (by omega), if_neg e, hj1]
  have l222 : kd T n = 7 → ¬ fn n = true → ∀ (f i : Nat) (τ : Mem) (o3 : Option Value), i ≤ (ρ b).length → (ρ b).length < i + f → FrI [391, 415, 419, 420] σ τ → (∀ j, j ≠ 30 → τ.1 391 j = σ.1 391 j) → Rw τ (((ρ b).take i).flatMap (lE (σ.1 407 n) (dt T n) ρ b)) → (((ρ b).take i).flatMap (lE (σ.1 407 n) (dt T n) ρ b)).length ≤ 100 * i → Wq G M_Mo_write (Em G (d + 2) 0 0 Q) 0 0 222 [some (rf G 391), some (.int (nI n)), some (.int (nI (100 * b + i))), o3] [] [] Γ τ := by
    intro hk7 hfn
    obtain ⟨hCh, hEV⟩ := hC (Or.inr (Or.inr (Or.inr hk7)))
    obtain ⟨q, w, hq1, hq2, -⟩ := hEV.2.2.2 hk7
    obtain ⟨hR6, hR5, -, -⟩ := hRC (Or.inr (Or.inr (Or.inr hk7))) b c hCh
    have hkid : ∀ i, i < c → b + i < 48 ∧ σ.1 414 (b + i) = nI (ρ (b + i)).length ∧ seg σ 413 (100 * (b + i)) (ρ (b + i)) ∧ (ρ (b + i)).length ≤ 100 := fun i hi => ⟨by have := hCh.2.1; omega, hρ (b + i) (by have := hCh.1; omega) (by have := hCh.2.1; omega) (hG.ch hCh h0 hi)⟩
    have hc48 : c ≤ 48 := by have := hCh.2.1; omega
    have hc0 : 0 < c := by omega
    have hkb : σ.1 414 b = nI (ρ b).length ∧ seg σ 413 (100 * b) (ρ b) ∧ (ρ b).length ≤ 100 := (hkid 0 hc0).2
    have hb48 : b < 48 := (hkid 0 hc0).1
    have hbl := hkb.2.2
    have hR4 : σ.1 404 n = dt T n := (hR.2.2.2 n hn).1.2.2.2.1 h0 (by rw [hk7]; decide)
    intro f
    induction f with
    | zero => intro i τ o3 hi hf; omega
    | succ f ih =>
    intro i τ o3 hi hf f0 h2 h3 h4
    have hM := hM.fr f0
    refine x_iload_n d_Mo_write_222 rfl rfl ?_
    refine x_bipush (v := 100) d_Mo_write_223 (by decide) ?_
    first | refine x_aload_n d_Mo_write_225 rfl rfl ?_ | refine x_aloadN_n d_Mo_write_225 rfl rfl ?_ | refine x_aloadE_n d_Mo_write_225 rfl rfl ?_ | refine x_aloadO_n d_Mo_write_225 rfl rfl ?_
    refine x_getR d_Mo_write_226 f_Mo_50 rfl (by first | exact hM.1 | exact hM.s rfl | assumption) (hM.r rfl) ?_
    refine x_iload_n d_Mo_write_229 rfl rfl ?_
    refine x_iald d_Mo_write_230 (by first | exact hM.1 | exact hM.s rfl | assumption) (vp_in_nI hn48 (by decide)) ?_
    rw [nI_clamp (by omega), f0.2 405 (by simp), hR5 hc0]
    refine x_imul d_Mo_write_231 ?_
    first | rw [mul40] | rw [mul24] | rw [mul100] | rw [mul7] | skip
    first | refine x_aload_n d_Mo_write_232 rfl rfl ?_ | refine x_aloadN_n d_Mo_write_232 rfl rfl ?_ | refine x_aloadE_n d_Mo_write_232 rfl rfl ?_ | refine x_aloadO_n d_Mo_write_232 rfl rfl ?_
    refine x_getR d_Mo_write_233 f_Mo_77 rfl (by first | exact hM.1 | exact hM.s rfl | assumption) (hM.r rfl) ?_
    first | refine x_aload_n d_Mo_write_236 rfl rfl ?_ | refine x_aloadN_n d_Mo_write_236 rfl rfl ?_ | refine x_aloadE_n d_Mo_write_236 rfl rfl ?_ | refine x_aloadO_n d_Mo_write_236 rfl rfl ?_
    refine x_getR d_Mo_write_237 f_Mo_50 rfl (by first | exact hM.1 | exact hM.s rfl | assumption) (hM.r rfl) ?_
    refine x_iload_n d_Mo_write_240 rfl rfl ?_
    refine x_iald d_Mo_write_241 (by first | exact hM.1 | exact hM.s rfl | assumption) (vp_in_nI hn48 (by decide)) ?_
    rw [nI_clamp (by omega), f0.2 405 (by simp), hR5 hc0]
    refine x_iald d_Mo_write_242 (by first | exact hM.1 | exact hM.s rfl | assumption) (vp_in_nI hb48 (by decide)) ?_
    rw [nI_clamp (by omega), f0.2 414 (by simp), hkb.1]
    refine x_iadd d_Mo_write_243 ?_
    first | rw [nI_add] | rw [nI_1] | skip
    refine x_icmp_ge (tgt := 319) d_Mo_write_244 (by decide) (fun c244 => ?_) (fun c244 => ?_)
    · have e : i = (ρ b).length := by have := (nI_leI (by omega) (by omega)).mp c244; omega
      subst e
      rw [List.take_length] at h3 h4
      exact j319 τ _ _ _ f0 h2 h3 (by unfold wO; rw [if_neg hfn, if_neg (by rw [hk7]; decide), if_neg (by rw [hk7]; decide), if_neg (by rw [hk7]; decide), if_neg (by rw [hk7]; decide), if_neg (by rw [hk7]; decide)]) (by omega)
    · have hil : i < (ρ b).length := Nat.not_le.mp fun z => c244 (nI_le (by omega) (by omega))
      have eS : τ.1 413 (100 * b + i) = (ρ b).getD i (-1) := by rw [f0.2 413 (by simp)]; exact hkb.2.1 i hil
      first | refine x_aload_n d_Mo_write_247 rfl rfl ?_ | refine x_aloadN_n d_Mo_write_247 rfl rfl ?_ | refine x_aloadE_n d_Mo_write_247 rfl rfl ?_ | refine x_aloadO_n d_Mo_write_247 rfl rfl ?_
      refine x_getR d_Mo_write_248 f_Mo_74 rfl (by first | exact hM.1 | exact hM.s rfl | assumption) (hM.r rfl) ?_
      refine x_iload_n d_Mo_write_251 rfl rfl ?_
      refine x_iald d_Mo_write_252 (by first | exact hM.1 | exact hM.s rfl | assumption) (vp_in_nI (show 100 * b + i < 4800 by omega) (by decide)) ?_
      rw [nI_clamp (by omega), eS]
      first | refine x_aload_n d_Mo_write_253 rfl rfl ?_ | refine x_aloadN_n d_Mo_write_253 rfl rfl ?_ | refine x_aloadE_n d_Mo_write_253 rfl rfl ?_ | refine x_aloadO_n d_Mo_write_253 rfl rfl ?_
      refine x_getR d_Mo_write_254 f_Mo_56 rfl (by first | exact hM.1 | exact hM.s rfl | assumption) (hM.r rfl) ?_
      refine x_iload_n d_Mo_write_257 rfl rfl ?_
      refine x_iald d_Mo_write_258 (by first | exact hM.1 | exact hM.s rfl | assumption) (vp_in_nI hn48 (by decide)) ?_
      rw [nI_clamp (by omega), f0.2 407 (by simp)]
      refine x_isub d_Mo_write_259 ?_
      refine x_istore_n d_Mo_write_260 rfl rfl ?_
      first | refine x_aload_n d_Mo_write_261 rfl rfl ?_ | refine x_aloadN_n d_Mo_write_261 rfl rfl ?_ | refine x_aloadE_n d_Mo_write_261 rfl rfl ?_ | refine x_aloadO_n d_Mo_write_261 rfl rfl ?_
      refine x_getR d_Mo_write_262 f_Mo_74 rfl (by first | exact hM.1 | exact hM.s rfl | assumption) (hM.r rfl) ?_
      refine x_iload_n d_Mo_write_265 rfl rfl ?_
      refine x_iald d_Mo_write_266 (by first | exact hM.1 | exact hM.s rfl | assumption) (vp_in_nI (show 100 * b + i < 4800 by omega) (by decide)) ?_
      rw [nI_clamp (by omega), eS]
      refine x_bipush (v := 100) d_Mo_write_267 (by decide) ?_
      refine x_icmp_ge (tgt := 303) d_Mo_write_269 (by decide) (fun c269 => ?_) (fun c269 => ?_)
      · have hE : lE (σ.1 407 n) (dt T n) ρ b ((ρ b).getD i (-1)) = [(ρ b).getD i (-1)] := by
          unfold lE
          rw [if_neg]
          rintro ⟨z1, z2, z3⟩
          first
          | exact absurd z1 (Int32.not_lt.mpr c269)
          | exact absurd z2 (Int32.not_le.mpr c273)
          | exact absurd z3 (Int32.not_lt.mpr c283)
        first | refine x_aload_n d_Mo_write_303 rfl rfl ?_ | refine x_aloadN_n d_Mo_write_303 rfl rfl ?_ | refine x_aloadE_n d_Mo_write_303 rfl rfl ?_ | refine x_aloadO_n d_Mo_write_303 rfl rfl ?_
        first | refine x_aload_n d_Mo_write_304 rfl rfl ?_ | refine x_aloadN_n d_Mo_write_304 rfl rfl ?_ | refine x_aloadE_n d_Mo_write_304 rfl rfl ?_ | refine x_aloadO_n d_Mo_write_304 rfl rfl ?_
        refine x_getR d_Mo_write_305 f_Mo_74 rfl (by first | exact hM.1 | exact hM.s rfl | assumption) (hM.r rfl) ?_
        refine x_iload_n d_Mo_write_308 rfl rfl ?_
        refine x_iald d_Mo_write_309 (by first | exact hM.1 | exact hM.s rfl | assumption) (vp_in_nI (show 100 * b + i < 4800 by omega) (by decide)) ?_
        rw [nI_clamp (by omega), eS]
        refine x_callV1 d_Mo_write_310 k_Mo_put l_Mo_272 v_Mo_put rfl s_Mo_put (by first | exact hM.1 | exact hM.s rfl | assumption) RoomE.m (Nat.le_of_ble_eq_true rfl) (c_Mo_put hM h3.1 (by omega) ?_)
        refine x_iinc (v := nI (100 * b + (i + 1))) d_Mo_write_313 rfl (nI_1 (100 * b + i)) rfl ?_
        refine x_goto (tgt := 222) d_Mo_write_316 (by decide) ?_
        first
        | exact Wq.fg (ih (i + 1) τ1 (some (.int ((ρ b).getD i (-1) - σ.1 407 n))) (by omega) (by omega) (f0.tr (f1.mono (by simp))) (fun j hj => (g1 j hj).trans (h2 j hj)) (by rw [flat_s hil, hE]; exact g2) (by rw [flat_s hil, hE, List.length_append]; have := hck.2.2.2; omega)) ⟨rfl, rfl, rfl, rfl, trivial⟩
        | exact Wq.fg (ih (i + 1) _ (some (.int ((ρ b).getD i (-1) - σ.1 407 n))) (by omega) (by omega) ((f0.put (by simp)).put (by simp)) (fun j hj => by rw [wI_j hj, wI_o (by decide)]; exact h2 j hj) (h3.put' (by rw [flat_s hil, hE])) (by rw [flat_s hil, hE, List.length_append, List.length_singleton]; omega)) ⟨rfl, rfl, rfl, rfl, trivial⟩
      · refine x_iload_n d_Mo_write_272 rfl rfl ?_
        refine x_if_lt (tgt := 303) d_Mo_write_273 (by decide) (fun c273 => ?_) (fun c273 => ?_)
        · have hE : lE (σ.1 407 n) (dt T n) ρ b ((ρ b).getD i (-1)) = [(ρ b).getD i (-1)] := by
            unfold lE
            rw [if_neg]
            rintro ⟨z1, z2, z3⟩
            first
            | exact absurd z1 (Int32.not_lt.mpr c269)
            | exact absurd z2 (Int32.not_le.mpr c273)
            | exact absurd z3 (Int32.not_lt.mpr c283)
          first | refine x_aload_n d_Mo_write_303 rfl rfl ?_ | refine x_aloadN_n d_Mo_write_303 rfl rfl ?_ | refine x_aloadE_n d_Mo_write_303 rfl rfl ?_ | refine x_aloadO_n d_Mo_write_303 rfl rfl ?_
          first | refine x_aload_n d_Mo_write_304 rfl rfl ?_ | refine x_aloadN_n d_Mo_write_304 rfl rfl ?_ | refine x_aloadE_n d_Mo_write_304 rfl rfl ?_ | refine x_aloadO_n d_Mo_write_304 rfl rfl ?_
          refine x_getR d_Mo_write_305 f_Mo_74 rfl (by first | exact hM.1 | exact hM.s rfl | assumption) (hM.r rfl) ?_
          refine x_iload_n d_Mo_write_308 rfl rfl ?_
          refine x_iald d_Mo_write_309 (by first | exact hM.1 | exact hM.s rfl | assumption) (vp_in_nI (show 100 * b + i < 4800 by omega) (by decide)) ?_
          rw [nI_clamp (by omega), eS]
          refine x_callV1 d_Mo_write_310 k_Mo_put l_Mo_272 v_Mo_put rfl s_Mo_put (by first | exact hM.1 | exact hM.s rfl | assumption) RoomE.m (Nat.le_of_ble_eq_true rfl) (c_Mo_put hM h3.1 (by omega) ?_)
          refine x_iinc (v := nI (100 * b + (i + 1))) d_Mo_write_313 rfl (nI_1 (100 * b + i)) rfl ?_
          refine x_goto (tgt := 222) d_Mo_write_316 (by decide) ?_
          first
          | exact Wq.fg (ih (i + 1) τ1 (some (.int ((ρ b).getD i (-1) - σ.1 407 n))) (by omega) (by omega) (f0.tr (f1.mono (by simp))) (fun j hj => (g1 j hj).trans (h2 j hj)) (by rw [flat_s hil, hE]; exact g2) (by rw [flat_s hil, hE, List.length_append]; have := hck.2.2.2; omega)) ⟨rfl, rfl, rfl, rfl, trivial⟩
          | exact Wq.fg (ih (i + 1) _ (some (.int ((ρ b).getD i (-1) - σ.1 407 n))) (by omega) (by omega) ((f0.put (by simp)).put (by simp)) (fun j hj => by rw [wI_j hj, wI_o (by decide)]; exact h2 j hj) (h3.put' (by rw [flat_s hil, hE])) (by rw [flat_s hil, hE, List.length_append, List.length_singleton]; omega)) ⟨rfl, rfl, rfl, rfl, trivial⟩
        · refine x_iload_n d_Mo_write_276 rfl rfl ?_
          first | refine x_aload_n d_Mo_write_277 rfl rfl ?_ | refine x_aloadN_n d_Mo_write_277 rfl rfl ?_ | refine x_aloadE_n d_Mo_write_277 rfl rfl ?_ | refine x_aloadO_n d_Mo_write_277 rfl rfl ?_
          refine x_getR d_Mo_write_278 f_Mo_47 rfl (by first | exact hM.1 | exact hM.s rfl | assumption) (hM.r rfl) ?_
          refine x_iload_n d_Mo_write_281 rfl rfl ?_
          refine x_iald d_Mo_write_282 (by first | exact hM.1 | exact hM.s rfl | assumption) (vp_in_nI hn48 (by decide)) ?_
          rw [nI_clamp (by omega), f0.2 404 (by simp), hR4]
          refine x_icmp_ge (tgt := 303) d_Mo_write_283 (by decide) (fun c283 => ?_) (fun c283 => ?_)
          · have hE : lE (σ.1 407 n) (dt T n) ρ b ((ρ b).getD i (-1)) = [(ρ b).getD i (-1)] := by
              unfold lE
              rw [if_neg]
              rintro ⟨z1, z2, z3⟩
              first
              | exact absurd z1 (Int32.not_lt.mpr c269)
              | exact absurd z2 (Int32.not_le.mpr c273)
              | exact absurd z3 (Int32.not_lt.mpr c283)
            first | refine x_aload_n d_Mo_write_303 rfl rfl ?_ | refine x_aloadN_n d_Mo_write_303 rfl rfl ?_ | refine x_aloadE_n d_Mo_write_303 rfl rfl ?_ | refine x_aloadO_n d_Mo_write_303 rfl rfl ?_
            first | refine x_aload_n d_Mo_write_304 rfl rfl ?_ | refine x_aloadN_n d_Mo_write_304 rfl rfl ?_ | refine x_aloadE_n d_Mo_write_304 rfl rfl ?_ | refine x_aloadO_n d_Mo_write_304 rfl rfl ?_
            refine x_getR d_Mo_write_305 f_Mo_74 rfl (by first | exact hM.1 | exact hM.s rfl | assumption) (hM.r rfl) ?_
            refine x_iload_n d_Mo_write_308 rfl rfl ?_
            refine x_iald d_Mo_write_309 (by first | exact hM.1 | exact hM.s rfl | assumption) (vp_in_nI (show 100 * b + i < 4800 by omega) (by decide)) ?_
            rw [nI_clamp (by omega), eS]
            refine x_callV1 d_Mo_write_310 k_Mo_put l_Mo_272 v_Mo_put rfl s_Mo_put (by first | exact hM.1 | exact hM.s rfl | assumption) RoomE.m (Nat.le_of_ble_eq_true rfl) (c_Mo_put hM h3.1 (by omega) ?_)
            refine x_iinc (v := nI (100 * b + (i + 1))) d_Mo_write_313 rfl (nI_1 (100 * b + i)) rfl ?_
            refine x_goto (tgt := 222) d_Mo_write_316 (by decide) ?_
            first
            | exact Wq.fg (ih (i + 1) τ1 (some (.int ((ρ b).getD i (-1) - σ.1 407 n))) (by omega) (by omega) (f0.tr (f1.mono (by simp))) (fun j hj => (g1 j hj).trans (h2 j hj)) (by rw [flat_s hil, hE]; exact g2) (by rw [flat_s hil, hE, List.length_append]; have := hck.2.2.2; omega)) ⟨rfl, rfl, rfl, rfl, trivial⟩
            | exact Wq.fg (ih (i + 1) _ (some (.int ((ρ b).getD i (-1) - σ.1 407 n))) (by omega) (by omega) ((f0.put (by simp)).put (by simp)) (fun j hj => by rw [wI_j hj, wI_o (by decide)]; exact h2 j hj) (h3.put' (by rw [flat_s hil, hE])) (by rw [flat_s hil, hE, List.length_append, List.length_singleton]; omega)) ⟨rfl, rfl, rfl, rfl, trivial⟩
          · have hlt : (ρ b).getD i (-1) < 100 := Int32.not_le.mp c269
            have hge : 0 ≤ (ρ b).getD i (-1) - σ.1 407 n := Int32.not_lt.mp c273
            have hlq : (ρ b).getD i (-1) - σ.1 407 n < dt T n := Int32.not_le.mp c283
            have hE : lE (σ.1 407 n) (dt T n) ρ b ((ρ b).getD i (-1)) = ρ (b + 1 + ((ρ b).getD i (-1) - σ.1 407 n).toNatClampNeg) := by unfold lE; rw [if_pos ⟨hlt, hge, hlq⟩]
            obtain ⟨z, hz, ez⟩ := nI_of (Int32.not_lt.mpr hge)
            have hzq : z < q := (nI_ltI hz (by omega)).mp (by rw [← ez, ← hq1]; exact hlq)
            rw [ez, nI_clamp hz] at hE
            have hck := hkid (1 + z) (by omega)
            rw [← Nat.add_assoc] at hck
            first | refine x_aload_n d_Mo_write_286 rfl rfl ?_ | refine x_aloadN_n d_Mo_write_286 rfl rfl ?_ | refine x_aloadE_n d_Mo_write_286 rfl rfl ?_ | refine x_aloadO_n d_Mo_write_286 rfl rfl ?_
            first | refine x_aload_n d_Mo_write_287 rfl rfl ?_ | refine x_aloadN_n d_Mo_write_287 rfl rfl ?_ | refine x_aloadE_n d_Mo_write_287 rfl rfl ?_ | refine x_aloadO_n d_Mo_write_287 rfl rfl ?_
            refine x_getR d_Mo_write_288 f_Mo_50 rfl (by first | exact hM.1 | exact hM.s rfl | assumption) (hM.r rfl) ?_
            refine x_iload_n d_Mo_write_291 rfl rfl ?_
            refine x_iald d_Mo_write_292 (by first | exact hM.1 | exact hM.s rfl | assumption) (vp_in_nI hn48 (by decide)) ?_
            rw [nI_clamp (by omega), f0.2 405 (by simp), hR5 hc0]
            refine x_iconst (v := 1) d_Mo_write_293 (by decide) ?_
            refine x_iadd d_Mo_write_294 ?_
            first | rw [nI_add] | rw [nI_1] | skip
            refine x_iload_n d_Mo_write_295 rfl rfl ?_
            refine x_iadd d_Mo_write_296 ?_
            first | rw [nI_add] | rw [nI_1] | skip
            refine Wq.top (y := nI (b + 1 + z)) (by rw [ez, nI_add]) ?_
            refine x_callV1 d_Mo_write_297 k_Mo_putResidual l_Mo_278 v_Mo_putResidual rfl s_Mo_putResidual (by first | exact hM.1 | exact hM.s rfl | assumption) RoomE.m (Nat.le_of_ble_eq_true rfl) (c_Mo_putResidual hM (by omega) (by rw [f0.2 414 (by simp)]; exact hck.2.1) (hck.2.2.1.fr f0 (by simp)) hck.2.2.2 h3 (by have := hck.2.2.2; omega) (fun τ1 f1 g1 g2 => ?_))
            refine x_goto (tgt := 313) d_Mo_write_300 (by decide) ?_
            refine x_iinc (v := nI (100 * b + (i + 1))) d_Mo_write_313 rfl (nI_1 (100 * b + i)) rfl ?_
            refine x_goto (tgt := 222) d_Mo_write_316 (by decide) ?_
            first
            | exact Wq.fg (ih (i + 1) τ1 (some (.int ((ρ b).getD i (-1) - σ.1 407 n))) (by omega) (by omega) (f0.tr (f1.mono (by simp))) (fun j hj => (g1 j hj).trans (h2 j hj)) (by rw [flat_s hil, hE]; exact g2) (by rw [flat_s hil, hE, List.length_append]; have := hck.2.2.2; omega)) ⟨rfl, rfl, rfl, rfl, trivial⟩
            | exact Wq.fg (ih (i + 1) _ (some (.int ((ρ b).getD i (-1) - σ.1 407 n))) (by omega) (by omega) ((f0.put (by simp)).put (by simp)) (fun j hj => by rw [wI_j hj, wI_o (by decide)]; exact h2 j hj) (h3.put' (by rw [flat_s hil, hE])) (by rw [flat_s hil, hE, List.length_append, List.length_singleton]; omega)) ⟨rfl, rfl, rfl, rfl, trivial⟩
  refine Ct.of (lv := [some (rf G 391), some (.int (nI n)), none, none]) (ll := []) rfl rfl (EN.cat (n := 2) ⟨rfl, rfl, trivial⟩ (Nat.le_of_ble_eq_true rfl)) ?_
  first | refine x_aload_n d_Mo_write_0 rfl rfl ?_ | refine x_aloadN_n d_Mo_write_0 rfl rfl ?_ | refine x_aloadE_n d_Mo_write_0 rfl rfl ?_ | refine x_aloadO_n d_Mo_write_0 rfl rfl ?_
  refine x_iconst (v := 0) d_Mo_write_1 (by decide) ?_
  refine x_putI d_Mo_write_2 (w_Mo_m_157 _) rfl (by first | rfl | decide) (by first | rfl | decide) (by first | exact hM.1 | exact hM.s rfl | assumption) ?_
  first | refine x_aload_n d_Mo_write_5 rfl rfl ?_ | refine x_aloadN_n d_Mo_write_5 rfl rfl ?_ | refine x_aloadE_n d_Mo_write_5 rfl rfl ?_ | refine x_aloadO_n d_Mo_write_5 rfl rfl ?_
  refine x_getR d_Mo_write_6 f_Mo_65 rfl (by first | exact hM.1 | exact hM.s rfl | assumption) (hM.r rfl) ?_
  refine x_iload_n d_Mo_write_9 rfl rfl ?_
  refine x_zald d_Mo_write_10 (by first | exact hM.1 | exact hM.s rfl | assumption) (vp_in_nI hn48 (by decide)) ?_
  rw [nI_clamp (by omega), wI_o (by decide), (hF n hn).1]
  refine x_if_eq (tgt := 22) d_Mo_write_11 (by decide) (fun c11 => ?_) (fun c11 => ?_)
  · have hfn : ¬ fn n = true := by rw [bI_0 c11]; decide
    first | refine x_aload_n d_Mo_write_22 rfl rfl ?_ | refine x_aloadN_n d_Mo_write_22 rfl rfl ?_ | refine x_aloadE_n d_Mo_write_22 rfl rfl ?_ | refine x_aloadO_n d_Mo_write_22 rfl rfl ?_
    refine x_getR d_Mo_write_23 f_Mo_35 rfl (by first | exact hM.1 | exact hM.s rfl | assumption) (hM.r rfl) ?_
    refine x_iload_n d_Mo_write_26 rfl rfl ?_
    refine x_iald d_Mo_write_27 (by first | exact hM.1 | exact hM.s rfl | assumption) (vp_in_nI hn48 (by decide)) ?_
    rw [nI_clamp (by omega), wI_o (by decide), (hR.2.2.2 n hn).1.1]
    refine x_iconst (v := 1) d_Mo_write_28 (by decide) ?_
    refine x_icmp_ne (tgt := 40) d_Mo_write_29 (by decide) (fun c29 => ?_) (fun c29 => ?_)
    · first | refine x_aload_n d_Mo_write_40 rfl rfl ?_ | refine x_aloadN_n d_Mo_write_40 rfl rfl ?_ | refine x_aloadE_n d_Mo_write_40 rfl rfl ?_ | refine x_aloadO_n d_Mo_write_40 rfl rfl ?_
      refine x_getR d_Mo_write_41 f_Mo_35 rfl (by first | exact hM.1 | exact hM.s rfl | assumption) (hM.r rfl) ?_
      refine x_iload_n d_Mo_write_44 rfl rfl ?_
      refine x_iald d_Mo_write_45 (by first | exact hM.1 | exact hM.s rfl | assumption) (vp_in_nI hn48 (by decide)) ?_
      rw [nI_clamp (by omega), wI_o (by decide), (hR.2.2.2 n hn).1.1]
      refine x_iconst (v := 5) d_Mo_write_46 (by decide) ?_
      refine x_icmp_ne (tgt := 60) d_Mo_write_47 (by decide) (fun c47 => ?_) (fun c47 => ?_)
      · first | refine x_aload_n d_Mo_write_60 rfl rfl ?_ | refine x_aloadN_n d_Mo_write_60 rfl rfl ?_ | refine x_aloadE_n d_Mo_write_60 rfl rfl ?_ | refine x_aloadO_n d_Mo_write_60 rfl rfl ?_
        refine x_getR d_Mo_write_61 f_Mo_35 rfl (by first | exact hM.1 | exact hM.s rfl | assumption) (hM.r rfl) ?_
        refine x_iload_n d_Mo_write_64 rfl rfl ?_
        refine x_iald d_Mo_write_65 (by first | exact hM.1 | exact hM.s rfl | assumption) (vp_in_nI hn48 (by decide)) ?_
        rw [nI_clamp (by omega), wI_o (by decide), (hR.2.2.2 n hn).1.1]
        refine x_iconst (v := 2) d_Mo_write_66 (by decide) ?_
        refine x_icmp_ne (tgt := 116) d_Mo_write_67 (by decide) (fun c67 => ?_) (fun c67 => ?_)
        · first | refine x_aload_n d_Mo_write_116 rfl rfl ?_ | refine x_aloadN_n d_Mo_write_116 rfl rfl ?_ | refine x_aloadE_n d_Mo_write_116 rfl rfl ?_ | refine x_aloadO_n d_Mo_write_116 rfl rfl ?_
          refine x_getR d_Mo_write_117 f_Mo_35 rfl (by first | exact hM.1 | exact hM.s rfl | assumption) (hM.r rfl) ?_
          refine x_iload_n d_Mo_write_120 rfl rfl ?_
          refine x_iald d_Mo_write_121 (by first | exact hM.1 | exact hM.s rfl | assumption) (vp_in_nI hn48 (by decide)) ?_
          rw [nI_clamp (by omega), wI_o (by decide), (hR.2.2.2 n hn).1.1]
          refine x_iconst (v := 3) d_Mo_write_122 (by decide) ?_
          refine x_icmp_ne (tgt := 139) d_Mo_write_123 (by decide) (fun c123 => ?_) (fun c123 => ?_)
          · first | refine x_aload_n d_Mo_write_139 rfl rfl ?_ | refine x_aloadN_n d_Mo_write_139 rfl rfl ?_ | refine x_aloadE_n d_Mo_write_139 rfl rfl ?_ | refine x_aloadO_n d_Mo_write_139 rfl rfl ?_
            refine x_getR d_Mo_write_140 f_Mo_35 rfl (by first | exact hM.1 | exact hM.s rfl | assumption) (hM.r rfl) ?_
            refine x_iload_n d_Mo_write_143 rfl rfl ?_
            refine x_iald d_Mo_write_144 (by first | exact hM.1 | exact hM.s rfl | assumption) (vp_in_nI hn48 (by decide)) ?_
            rw [nI_clamp (by omega), wI_o (by decide), (hR.2.2.2 n hn).1.1]
            refine x_bipush (v := 6) d_Mo_write_145 (by decide) ?_
            refine x_icmp_ne (tgt := 212) d_Mo_write_147 (by decide) (fun c147 => ?_) (fun c147 => ?_)
            · have hk7 : kd T n = 7 := by
                obtain ⟨k, hk, ek⟩ := (hW.2.2 n hn).1.2.1
                have ek : kd T n = nI k := ek
                have h4 : kd T n ≠ 4 := fun z => hfn (hf4 z)
                have : k = 0 ∨ k = 1 ∨ k = 2 ∨ k = 3 ∨ k = 4 ∨ k = 5 ∨ k = 6 ∨ k = 7 ∨ k = 8 := by omega
                rcases this with rfl | rfl | rfl | rfl | rfl | rfl | rfl | rfl | rfl
                · exact absurd ek h0
                · exact absurd ek c29
                · exact absurd ek c67
                · exact absurd ek c123
                · exact absurd ek h4
                · exact absurd ek c47
                · exact absurd ek c147
                · exact ek
                · exact absurd ek h8
              obtain ⟨hCh, hEV⟩ := hC (Or.inr (Or.inr (Or.inr hk7)))
              obtain ⟨q, w, hq1, hq2, -⟩ := hEV.2.2.2 hk7
              have h7b : σ.1 405 n = nI b := (hRC (Or.inr (Or.inr (Or.inr hk7))) b c hCh).2.1 (by omega)
              refine x_bipush (v := 100) d_Mo_write_212 (by decide) ?_
              first | refine x_aload_n d_Mo_write_214 rfl rfl ?_ | refine x_aloadN_n d_Mo_write_214 rfl rfl ?_ | refine x_aloadE_n d_Mo_write_214 rfl rfl ?_ | refine x_aloadO_n d_Mo_write_214 rfl rfl ?_
              refine x_getR d_Mo_write_215 f_Mo_50 rfl (by first | exact hM.1 | exact hM.s rfl | assumption) (hM.r rfl) ?_
              refine x_iload_n d_Mo_write_218 rfl rfl ?_
              refine x_iald d_Mo_write_219 (by first | exact hM.1 | exact hM.s rfl | assumption) (vp_in_nI hn48 (by decide)) ?_
              rw [nI_clamp (by omega), wI_o (by decide), h7b]
              refine x_imul d_Mo_write_220 ?_
              first | rw [mul40] | rw [mul24] | rw [mul100] | rw [mul7] | skip
              refine x_istore_n d_Mo_write_221 rfl rfl ?_
              exact Wq.fg (l222 hk7 hfn ((ρ b).length + 1) 0 _ none (by omega) (by omega) (f00.mono (by simp)) (fun j hj => wI_j hj) (by rw [List.take_zero]; exact r00) (by simp)) ⟨rfl, rfl, by rw [Nat.add_zero], trivial⟩
            · obtain ⟨u', hu1, hu2, hu3, hu4, hu5⟩ := (hW.2.2 n hn).2.1 c147
              have eu : u' = u := Option.some.inj (hu1.symm.trans (hu c147))
              subst eu
              have huN : u' < tN T := by have := isBel_lt hW.1.AW hn hu5; omega
              have h6a : σ.1 404 n = nI u' := by rw [(hR.2.2.2 n hn).1.2.2.2.1 h0 (by rw [c147]; decide)]; exact hu2
              have hu48 : u' < 48 := by have := hW.1.1; omega
              first | refine x_aload_n d_Mo_write_150 rfl rfl ?_ | refine x_aloadN_n d_Mo_write_150 rfl rfl ?_ | refine x_aloadE_n d_Mo_write_150 rfl rfl ?_ | refine x_aloadO_n d_Mo_write_150 rfl rfl ?_
              first | refine x_aload_n d_Mo_write_151 rfl rfl ?_ | refine x_aloadN_n d_Mo_write_151 rfl rfl ?_ | refine x_aloadE_n d_Mo_write_151 rfl rfl ?_ | refine x_aloadO_n d_Mo_write_151 rfl rfl ?_
              refine x_getR d_Mo_write_152 f_Mo_47 rfl (by first | exact hM.1 | exact hM.s rfl | assumption) (hM.r rfl) ?_
              refine x_iload_n d_Mo_write_155 rfl rfl ?_
              refine x_iald d_Mo_write_156 (by first | exact hM.1 | exact hM.s rfl | assumption) (vp_in_nI hn48 (by decide)) ?_
              rw [nI_clamp (by omega), wI_o (by decide), h6a]
              refine x_iload_n d_Mo_write_157 rfl rfl ?_
              refine x_callV2 d_Mo_write_158 k_Mo_isRenaming l_Mo_198 v_Mo_isRenaming rfl s_Mo_isRenaming (by first | exact hM.1 | exact hM.s rfl | assumption) RoomE.m (Nat.le_of_ble_eq_true rfl) (c_Mo_isRenaming (P := sgP pt) hM.w ((hR.twT hW hS hp huN hn).fr f00 (by simp) (by simp) (by simp)) (by rw [wI_o (by decide)]; exact (hR.2.2.2 u' huN).1.2.2.1.1) (by rw [wI_o (by decide)]; exact (hR.2.2.2 n hn).1.2.2.1.1) (fun τ1 f1 g1 => ?_))
              have hM := (hM.w (a := 391) (j := 30) (v := 0)).fr f1
              refine x_istore_n d_Mo_write_161 rfl rfl ?_
              first | refine x_aload_n d_Mo_write_162 rfl rfl ?_ | refine x_aloadN_n d_Mo_write_162 rfl rfl ?_ | refine x_aloadE_n d_Mo_write_162 rfl rfl ?_ | refine x_aloadO_n d_Mo_write_162 rfl rfl ?_
              first | refine x_aload_n d_Mo_write_163 rfl rfl ?_ | refine x_aloadN_n d_Mo_write_163 rfl rfl ?_ | refine x_aloadE_n d_Mo_write_163 rfl rfl ?_ | refine x_aloadO_n d_Mo_write_163 rfl rfl ?_
              refine x_getR d_Mo_write_164 f_Mo_47 rfl (by first | exact hM.1 | exact hM.s rfl | assumption) (hM.r rfl) ?_
              refine x_iload_n d_Mo_write_167 rfl rfl ?_
              refine x_iald d_Mo_write_168 (by first | exact hM.1 | exact hM.s rfl | assumption) (vp_in_nI hn48 (by decide)) ?_
              rw [nI_clamp (by omega), f1.2 404 (by simp), wI_o (by decide), h6a]
              refine x_callV1 d_Mo_write_169 k_Mo_putCall l_Mo_275 v_Mo_putCall rfl s_Mo_putCall (by first | exact hM.1 | exact hM.s rfl | assumption) RoomE.m (Nat.le_of_ble_eq_true rfl) (c_Mo_putCall hM hu48 (by rw [f1.2 412 (by simp), wI_o (by decide)]; exact (hF u' huN).2.1) (((hF u' huN).2.2.1.fr f00 (by simp)).fr f1 (by simp)) (hF u' huN).2.2.2.1 (r00.fr f1 (by simp) (by simp)) (by simp) (fun τ2 f2 g2 g3 => ?_))
              refine x_iconst (v := 1) d_Mo_write_172 (by decide) ?_
              refine x_istore_n d_Mo_write_173 rfl rfl ?_
              have hre : renI (tmn T u') (tmn T n) = true := by rw [renI_sy]; exact hu4
              exact Wq.fg (l174 c147 hfn huN τ1 ((f00.mono (by simp)).tr (f1.mono (by simp))) (g1 hre) ((P u').length + 1) 0 τ2 (by omega) (by omega) f2 (fun j hj => by rw [g2 j hj, f1.2 391 (by simp), wI_j hj]) (by rw [List.take_zero, List.nil_append, List.drop_zero]; exact g3)) ⟨rfl, rfl, by rw [hre], rfl, trivial⟩
          · obtain ⟨hCh, hEV⟩ := hC (Or.inr (Or.inl c123))
            have hc1 : c = 1 := (hEV.2.1 c123).1
            have h3b : σ.1 405 n = nI b := (hRC (Or.inr (Or.inl c123)) b c hCh).2.1 (by omega)
            have hkb := hρ b hCh.1 (by have := hCh.2.1; omega) (hG.ch (i := 0) hCh h0 (by omega))
            have hb48 : b < 48 := by have := hCh.2.1; omega
            first | refine x_aload_n d_Mo_write_126 rfl rfl ?_ | refine x_aloadN_n d_Mo_write_126 rfl rfl ?_ | refine x_aloadE_n d_Mo_write_126 rfl rfl ?_ | refine x_aloadO_n d_Mo_write_126 rfl rfl ?_
            first | refine x_aload_n d_Mo_write_127 rfl rfl ?_ | refine x_aloadN_n d_Mo_write_127 rfl rfl ?_ | refine x_aloadE_n d_Mo_write_127 rfl rfl ?_ | refine x_aloadO_n d_Mo_write_127 rfl rfl ?_
            refine x_getR d_Mo_write_128 f_Mo_50 rfl (by first | exact hM.1 | exact hM.s rfl | assumption) (hM.r rfl) ?_
            refine x_iload_n d_Mo_write_131 rfl rfl ?_
            refine x_iald d_Mo_write_132 (by first | exact hM.1 | exact hM.s rfl | assumption) (vp_in_nI hn48 (by decide)) ?_
            rw [nI_clamp (by omega), wI_o (by decide), h3b]
            refine x_callV1 d_Mo_write_133 k_Mo_putResidual l_Mo_278 v_Mo_putResidual rfl s_Mo_putResidual (by first | exact hM.1 | exact hM.s rfl | assumption) RoomE.m (Nat.le_of_ble_eq_true rfl) (c_Mo_putResidual hM.w hb48 (by rw [wI_o (by decide)]; exact hkb.1) (hkb.2.1.fr f00 (by simp)) hkb.2.2 r00 (by have := hkb.2.2; simp only [List.length_nil]; omega) (fun τ1 f1 g1 g2 => ?_))
            refine x_goto (tgt := 319) d_Mo_write_136 (by decide) ?_
            first
            | exact j319 τ1 _ _ _ ((f00.mono (by simp)).tr (f1.mono (by simp))) (fun j hj => (g1 j hj).trans (wI_j hj)) g2 (by unfold wO; rw [if_pos hfn]; rfl) (by have := (hF n hn).2.2.2.1; simp only [List.nil_append, List.length_cons]; omega)
            | exact j319 τ1 _ _ _ (((f00.mono (by simp)).put (by simp)).tr (f1.mono (by simp))) (fun j hj => by rw [f1.2 391 (by simp), wI_j hj, wI_j hj]) ⟨by rw [f1.2 391 (by simp), wI_s], g1⟩ (by unfold wO; rw [if_neg hfn, if_pos c29]) (by have := (hW.1.2.2 n hn).1; show (ntm (tD T n)).length ≤ _; omega)
            | exact j319 _ _ _ _ (((f00.mono (by simp)).put (by simp)).put (by simp)) (fun j hj => by rw [wI_j hj, wI_o (by decide), wI_j hj]) r00.put (by unfold wO; rw [if_neg hfn, if_neg (by rw [c47]; decide), if_pos c47]; rfl) (by simp)
            | exact j319 τ1 _ _ _ ((f00.mono (by simp)).tr (f1.mono (by simp))) (fun j hj => (g1 j hj).trans (wI_j hj)) g2 (by unfold wO; rw [if_neg hfn, if_neg (by rw [c123]; decide), if_neg (by rw [c123]; decide), if_neg (by rw [c123]; decide), if_pos c123]; rfl) (by have := hkb.2.2; simp only [List.nil_append]; omega)
        · first | refine x_aload_n d_Mo_write_70 rfl rfl ?_ | refine x_aloadN_n d_Mo_write_70 rfl rfl ?_ | refine x_aloadE_n d_Mo_write_70 rfl rfl ?_ | refine x_aloadO_n d_Mo_write_70 rfl rfl ?_
          first | refine x_aload_n d_Mo_write_71 rfl rfl ?_ | refine x_aloadN_n d_Mo_write_71 rfl rfl ?_ | refine x_aloadE_n d_Mo_write_71 rfl rfl ?_ | refine x_aloadO_n d_Mo_write_71 rfl rfl ?_
          refine x_getR d_Mo_write_72 f_Mo_41 rfl (by first | exact hM.1 | exact hM.s rfl | assumption) (hM.r rfl) ?_
          refine x_bipush (v := 40) d_Mo_write_75 (by decide) ?_
          refine x_iload_n d_Mo_write_77 rfl rfl ?_
          refine x_imul d_Mo_write_78 ?_
          first | rw [mul40] | rw [mul24] | rw [mul100] | rw [mul7] | skip
          refine Wq.top (y := nI (40 * n + 0)) (by first | rfl | rw [mul40]) ?_
          refine x_iald d_Mo_write_79 (by first | exact hM.1 | exact hM.s rfl | assumption) (vp_in_nI (show 40 * n + 0 < 1920 by omega) (by decide)) ?_
          rw [nI_clamp (by omega), wI_o (by decide), (hR.2.2.2 n hn).1.2.2.1.2 0 hz0]
          refine x_callV1 d_Mo_write_80 k_Mo_put l_Mo_272 v_Mo_put rfl s_Mo_put (by first | exact hM.1 | exact hM.s rfl | assumption) RoomE.m (Nat.le_of_ble_eq_true rfl) (c_Mo_put hM.w r00.1 (by simp) ?_)
          refine x_iconst (v := 0) d_Mo_write_83 (by decide) ?_
          refine x_istore_n d_Mo_write_84 rfl rfl ?_
          have hz1 : ([] ++ [(tmn T n).getD 0 (-1)] : List Int32) = (tmn T n).getD 0 (-1) :: (List.range 0).flatMap (fun i => ρ (b + i)) := rfl
          exact Wq.fg (l85 none c67 hfn (c + 1) 0 _ (by omega) (by omega) (((f00.mono (by simp)).put (by simp)).put (by simp)) (fun j hj => by rw [wI_j hj, wI_o (by decide), wI_j hj]) (hz1 ▸ r00.put) (by simp)) ⟨rfl, rfl, by rw [nI_0], trivial⟩
      · first | refine x_aload_n d_Mo_write_50 rfl rfl ?_ | refine x_aloadN_n d_Mo_write_50 rfl rfl ?_ | refine x_aloadE_n d_Mo_write_50 rfl rfl ?_ | refine x_aloadO_n d_Mo_write_50 rfl rfl ?_
        refine x_sipush (v := 400) d_Mo_write_51 (by decide) ?_
        refine x_callV1 d_Mo_write_54 k_Mo_put l_Mo_272 v_Mo_put rfl s_Mo_put (by first | exact hM.1 | exact hM.s rfl | assumption) RoomE.m (Nat.le_of_ble_eq_true rfl) (c_Mo_put hM.w r00.1 (by simp) ?_)
        refine x_goto (tgt := 319) d_Mo_write_57 (by decide) ?_
        first
        | exact j319 τ1 _ _ _ ((f00.mono (by simp)).tr (f1.mono (by simp))) (fun j hj => (g1 j hj).trans (wI_j hj)) g2 (by unfold wO; rw [if_pos hfn]; rfl) (by have := (hF n hn).2.2.2.1; simp only [List.nil_append, List.length_cons]; omega)
        | exact j319 τ1 _ _ _ (((f00.mono (by simp)).put (by simp)).tr (f1.mono (by simp))) (fun j hj => by rw [f1.2 391 (by simp), wI_j hj, wI_j hj]) ⟨by rw [f1.2 391 (by simp), wI_s], g1⟩ (by unfold wO; rw [if_neg hfn, if_pos c29]) (by have := (hW.1.2.2 n hn).1; show (ntm (tD T n)).length ≤ _; omega)
        | exact j319 _ _ _ _ (((f00.mono (by simp)).put (by simp)).put (by simp)) (fun j hj => by rw [wI_j hj, wI_o (by decide), wI_j hj]) r00.put (by unfold wO; rw [if_neg hfn, if_neg (by rw [c47]; decide), if_pos c47]; rfl) (by simp)
        | exact j319 τ1 _ _ _ ((f00.mono (by simp)).tr (f1.mono (by simp))) (fun j hj => (g1 j hj).trans (wI_j hj)) g2 (by unfold wO; rw [if_neg hfn, if_neg (by rw [c123]; decide), if_neg (by rw [c123]; decide), if_neg (by rw [c123]; decide), if_pos c123]; rfl) (by have := hkb.2.2; simp only [List.nil_append]; omega)
    · first | refine x_aload_n d_Mo_write_32 rfl rfl ?_ | refine x_aloadN_n d_Mo_write_32 rfl rfl ?_ | refine x_aloadE_n d_Mo_write_32 rfl rfl ?_ | refine x_aloadO_n d_Mo_write_32 rfl rfl ?_
      refine x_iload_n d_Mo_write_33 rfl rfl ?_
      refine x_callV1 d_Mo_write_34 k_Mo_load l_Mo_240 v_Mo_load rfl s_Mo_load (by first | exact hM.1 | exact hM.s rfl | assumption) RoomE.m (Nat.le_of_ble_eq_true rfl) (c_Mo_load hM.w hn48 (by rw [wI_o (by decide)]; exact (hR.2.2.2 n hn).1.2.2.1.1) ((hR.2.2.2 n hn).1.2.2.1.2.fr f00 (by simp)) (hW.1.2.2 n hn).1 (fun τ1 f1 g1 => ?_))
      refine x_goto (tgt := 319) d_Mo_write_37 (by decide) ?_
      first
      | exact j319 τ1 _ _ _ ((f00.mono (by simp)).tr (f1.mono (by simp))) (fun j hj => (g1 j hj).trans (wI_j hj)) g2 (by unfold wO; rw [if_pos hfn]; rfl) (by have := (hF n hn).2.2.2.1; simp only [List.nil_append, List.length_cons]; omega)
      | exact j319 τ1 _ _ _ (((f00.mono (by simp)).put (by simp)).tr (f1.mono (by simp))) (fun j hj => by rw [f1.2 391 (by simp), wI_j hj, wI_j hj]) ⟨by rw [f1.2 391 (by simp), wI_s], g1⟩ (by unfold wO; rw [if_neg hfn, if_pos c29]) (by have := (hW.1.2.2 n hn).1; show (ntm (tD T n)).length ≤ _; omega)
      | exact j319 _ _ _ _ (((f00.mono (by simp)).put (by simp)).put (by simp)) (fun j hj => by rw [wI_j hj, wI_o (by decide), wI_j hj]) r00.put (by unfold wO; rw [if_neg hfn, if_neg (by rw [c47]; decide), if_pos c47]; rfl) (by simp)
      | exact j319 τ1 _ _ _ ((f00.mono (by simp)).tr (f1.mono (by simp))) (fun j hj => (g1 j hj).trans (wI_j hj)) g2 (by unfold wO; rw [if_neg hfn, if_neg (by rw [c123]; decide), if_neg (by rw [c123]; decide), if_neg (by rw [c123]; decide), if_pos c123]; rfl) (by have := hkb.2.2; simp only [List.nil_append]; omega)
  · have hfn := bI_n0 c11
    first | refine x_aload_n d_Mo_write_14 rfl rfl ?_ | refine x_aloadN_n d_Mo_write_14 rfl rfl ?_ | refine x_aloadE_n d_Mo_write_14 rfl rfl ?_ | refine x_aloadO_n d_Mo_write_14 rfl rfl ?_
    refine x_iload_n d_Mo_write_15 rfl rfl ?_
    refine x_callV1 d_Mo_write_16 k_Mo_putCall l_Mo_275 v_Mo_putCall rfl s_Mo_putCall (by first | exact hM.1 | exact hM.s rfl | assumption) RoomE.m (Nat.le_of_ble_eq_true rfl) (c_Mo_putCall hM.w hn48 (by rw [wI_o (by decide)]; exact (hF n hn).2.1) ((hF n hn).2.2.1.fr f00 (by simp)) (hF n hn).2.2.2.1 r00 (by simp) (fun τ1 f1 g1 g2 => ?_))
    refine x_goto (tgt := 319) d_Mo_write_19 (by decide) ?_
    first
    | exact j319 τ1 _ _ _ ((f00.mono (by simp)).tr (f1.mono (by simp))) (fun j hj => (g1 j hj).trans (wI_j hj)) g2 (by unfold wO; rw [if_pos hfn]; rfl) (by have := (hF n hn).2.2.2.1; simp only [List.nil_append, List.length_cons]; omega)
    | exact j319 τ1 _ _ _ (((f00.mono (by simp)).put (by simp)).tr (f1.mono (by simp))) (fun j hj => by rw [f1.2 391 (by simp), wI_j hj, wI_j hj]) ⟨by rw [f1.2 391 (by simp), wI_s], g1⟩ (by unfold wO; rw [if_neg hfn, if_pos c29]) (by have := (hW.1.2.2 n hn).1; show (ntm (tD T n)).length ≤ _; omega)
    | exact j319 _ _ _ _ (((f00.mono (by simp)).put (by simp)).put (by simp)) (fun j hj => by rw [wI_j hj, wI_o (by decide), wI_j hj]) r00.put (by unfold wO; rw [if_neg hfn, if_neg (by rw [c47]; decide), if_pos c47]; rfl) (by simp)
    | exact j319 τ1 _ _ _ ((f00.mono (by simp)).tr (f1.mono (by simp))) (fun j hj => (g1 j hj).trans (wI_j hj)) g2 (by unfold wO; rw [if_neg hfn, if_neg (by rw [c123]; decide), if_neg (by rw [c123]; decide), if_neg (by rw [c123]; decide), if_pos c123]; rfl) (by have := hkb.2.2; simp only [List.nil_append]; omega)
