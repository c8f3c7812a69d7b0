/-! SuperDriverModel: the object at 391, its arrays from 392 on -/
def moSh (k : Nat) : Option Sh := match k with
  | 392 => some (1, 24)
  | 393 => some (1, 8)
  | 394 => some (2, 8)
  | 395 => some (1, 1344)
  | 396 => some (1, 56)
  | 397 => some (1, 24)
  | 398 => some (1, 192)
  | 399 => some (1, 8)
  | 400 => some (1, 48)
  | 401 => some (1, 48)
  | 402 => some (1, 1920)
  | 403 => some (1, 48)
  | 404 => some (1, 48)
  | 405 => some (1, 48)
  | 406 => some (1, 48)
  | 407 => some (1, 48)
  | 408 => some (1, 48)
  | 409 => some (1, 48)
  | 410 => some (2, 48)
  | 411 => some (1, 1920)
  | 412 => some (1, 48)
  | 413 => some (1, 4800)
  | 414 => some (1, 48)
  | 415 => some (1, 20400)
  | 416 => some (1, 20400)
  | 417 => some (1, 100)
  | 418 => some (1, 100)
  | 419 => some (1, 100)
  | 420 => some (1, 100)
  | 421 => some (2, 1600)
  | 422 => some (1, 40)
  | 423 => some (1, 40)
  | 424 => some (1, 40)
  | 425 => some (1, 200)
  | _ => none
def moRf (j : Nat) : Option Nat := match j with
  | 2 => some 392
  | 3 => some 393
  | 4 => some 394
  | 5 => some 395
  | 6 => some 396
  | 8 => some 397
  | 9 => some 398
  | 10 => some 399
  | 15 => some 400
  | 16 => some 401
  | 17 => some 402
  | 18 => some 403
  | 19 => some 404
  | 20 => some 405
  | 21 => some 406
  | 22 => some 407
  | 23 => some 408
  | 24 => some 409
  | 25 => some 410
  | 26 => some 411
  | 27 => some 412
  | 28 => some 413
  | 29 => some 414
  | 31 => some 415
  | 32 => some 416
  | 33 => some 417
  | 34 => some 418
  | 35 => some 419
  | 36 => some 420
  | 37 => some 421
  | 39 => some 422
  | 41 => some 423
  | 42 => some 424
  | 46 => some 425
  | _ => none
def MoS (Γ : List Sh) (σ : Mem) : Prop := Γ[391]? = some (0, 11) ∧ (∀ k e, moSh k = some e → Γ[k]? = some e) ∧ ∀ j k, moRf j = some k → σ.2.1 391 j = some k
theorem MoS.s {Γ : List Sh} {σ : Mem} (h : MoS Γ σ) {k : Nat} {e : Sh} (he : moSh k = some e) : Γ[k]? = some e := h.2.1 k e he
theorem MoS.r {Γ : List Sh} {σ : Mem} (h : MoS Γ σ) {j k : Nat} (he : moRf j = some k) : σ.2.1 391 j = some k := h.2.2 j k he
theorem MoS.fr {Γ : List Sh} {σ σ' : Mem} {S : List Nat} (h : MoS Γ σ) (hf : FrI S σ σ') : MoS Γ σ' := ⟨h.1, h.2.1, fun j k e => by rw [hf.1]; exact h.2.2 j k e⟩
theorem MoS.w {Γ : List Sh} {σ : Mem} {a j : Nat} {v : Int32} (h : MoS Γ σ) : MoS Γ (wI σ a j v) := h
theorem MoS.P {Γ : List Sh} {σ σ' : Mem} {X : Nat → Prop} (h : MoS Γ σ) (hf : FrP X σ σ') (h0 : ¬ X 391) : MoS Γ σ' := ⟨h.1, h.2.1, fun j k e => by rw [(hf 391 h0).2.1]; exact h.2.2 j k e⟩
theorem nI_mul (a b : Nat) : nI a * nI b = nI (a * b) := (Int32.ofNat_mul a b).symm
theorem mul40 {n : Nat} : (40 : Int32) * nI n = nI (40 * n) := nI_mul 40 n
theorem mul24 {n : Nat} : (24 : Int32) * nI n = nI (24 * n) := nI_mul 24 n
theorem mul100 {n : Nat} : (100 : Int32) * nI n = nI (100 * n) := nI_mul 100 n
theorem mul7 {n : Nat} : (7 : Int32) * nI n = nI (7 * n) := nI_mul 7 n
/-- a stretch of an array -/
def seg (σ : Mem) (k p : Nat) (zs : List Int32) : Prop := ∀ i, i < zs.length → σ.1 k (p + i) = zs.getD i (-1)
theorem seg.fr {σ σ' : Mem} {S : List Nat} {k p : Nat} {zs : List Int32} (h : seg σ k p zs) (hf : FrI S σ σ') (hk : k ∉ S) : seg σ' k p zs := fun i hi => by rw [hf.2 k hk]; exact h i hi
theorem seg.P {σ σ' : Mem} {X : Nat → Prop} {k p : Nat} {zs : List Int32} (h : seg σ k p zs) (hf : FrP X σ σ') (hk : ¬ X k) : seg σ' k p zs := fun i hi => by rw [(hf k hk).1]; exact h i hi
theorem seg.drop {σ : Mem} {k p q : Nat} {zs : List Int32} (h : seg σ k p zs) : seg σ k (p + q) (zs.drop q) := fun i hi => by
  rw [List.length_drop] at hi
  have := h (q + i) (by omega)
  rw [show p + q + i = p + (q + i) by omega, this, List.getD_eq_getElem?_getD, List.getD_eq_getElem?_getD, List.getElem?_drop]
theorem seg.take {σ : Mem} {k p q : Nat} {zs : List Int32} (h : seg σ k p zs) : seg σ k p (zs.take q) := fun i hi => by
  rw [List.length_take] at hi
  rw [h i (by omega), List.getD_eq_getElem?_getD, List.getD_eq_getElem?_getD, List.getElem?_take_of_lt (by omega)]
theorem seg.nil {σ : Mem} {k p : Nat} : seg σ k p [] := fun i hi => absurd hi (Nat.not_lt_zero _)
set_option maxRecDepth 10000 in
set_option maxHeartbeats 1000000 in
theorem c_Mo_thrown {G : Ctx} {d : Nat} {Γ : List Sh} {σ : Mem} {Q : Option Value → List Sh → Mem → Prop}  (hM : MoS Γ σ) (hQ : Q (some (.int (σ.1 391 0))) Γ σ) : Ct G M_Mo_thrown d 0 0 [rf G 391] Γ σ Q := by
  refine Ct.of (lv := [some (rf G 391)]) (ll := []) rfl rfl (EN.cat (n := 0) ⟨rfl, trivial⟩ (Nat.le_of_ble_eq_true rfl)) ?_
  first | refine x_aload_n d_Mo_thrown_0 rfl rfl ?_ | refine x_aloadN_n d_Mo_thrown_0 rfl rfl ?_ | refine x_aloadE_n d_Mo_thrown_0 rfl rfl ?_ | refine x_aloadO_n d_Mo_thrown_0 rfl rfl ?_
  refine x_getI d_Mo_thrown_1 f_Mo_117 rfl (by first | exact hM.1 | exact hM.s rfl | assumption) ?_
  exact x_ireturn d_Mo_thrown_4 rfl (by first | rfl | decide) (hQ)
set_option maxRecDepth 10000 in
set_option maxHeartbeats 1000000 in
theorem c_Mo_throwing {G : Ctx} {d : Nat} {Γ : List Sh} {σ : Mem} {Q : Option Value → List Sh → Mem → Prop} {a b : Bool} (hM : MoS Γ σ) (hQ : Q (some (.int (bI (a || b)))) Γ (wI σ 391 0 (if a then 1 else if b then 2 else 0))) : Ct G M_Mo_throwing d 0 0 [rf G 391, .int (bI a), .int (bI b)] Γ σ Q := by
  refine Ct.of (lv := [some (rf G 391), some (.int (bI a)), some (.int (bI b))]) (ll := []) rfl rfl (EN.cat (n := 0) ⟨rfl, rfl, rfl, trivial⟩ (Nat.le_of_ble_eq_true rfl)) ?_
  first | refine x_aload_n d_Mo_throwing_0 rfl rfl ?_ | refine x_aloadN_n d_Mo_throwing_0 rfl rfl ?_ | refine x_aloadE_n d_Mo_throwing_0 rfl rfl ?_ | refine x_aloadO_n d_Mo_throwing_0 rfl rfl ?_
  refine x_iload_n d_Mo_throwing_1 rfl rfl ?_
  refine x_if_eq (tgt := 9) d_Mo_throwing_2 (by decide) (fun c2 => ?_) (fun c2 => ?_)
  · refine x_iload_n d_Mo_throwing_9 rfl rfl ?_
    refine x_if_eq (tgt := 17) d_Mo_throwing_10 (by decide) (fun c10 => ?_) (fun c10 => ?_)
    · refine x_iconst (v := 0) d_Mo_throwing_17 (by decide) ?_
      refine x_putI d_Mo_throwing_18 (w_Mo_m_117 _) rfl (by first | rfl | decide) (by first | rfl | decide) (by first | exact hM.1 | exact hM.s rfl | assumption) ?_
      first | refine x_aload_n d_Mo_throwing_21 rfl rfl ?_ | refine x_aloadN_n d_Mo_throwing_21 rfl rfl ?_ | refine x_aloadE_n d_Mo_throwing_21 rfl rfl ?_ | refine x_aloadO_n d_Mo_throwing_21 rfl rfl ?_
      refine x_getI d_Mo_throwing_22 f_Mo_117 rfl (by first | exact hM.1 | exact hM.s rfl | assumption) ?_
      rw [wI_s]
      refine x_if_le (tgt := 32) d_Mo_throwing_25 (by decide) (fun c25 => ?_) (fun c25 => ?_)
      · refine x_iconst (v := 0) d_Mo_throwing_32 (by decide) ?_
        exact x_ireturn d_Mo_throwing_33 rfl (by first | rfl | decide) (by
  have q0 := c25
  first
  | (rw [bI_0 c2, bI_0 c10] at hQ; exact hQ)
  | (rw [bI_0 c2, bI_n0 c10] at hQ; exact hQ)
  | (rw [bI_n0 c2] at hQ; exact hQ)
  | exact absurd c25 (by decide))
      · refine x_iconst (v := 1) d_Mo_throwing_28 (by decide) ?_
        refine x_goto (tgt := 33) d_Mo_throwing_29 (by decide) ?_
        exact x_ireturn d_Mo_throwing_33 rfl (by first | rfl | decide) (by
  have q0 := c25
  first
  | (rw [bI_0 c2, bI_0 c10] at hQ; exact hQ)
  | (rw [bI_0 c2, bI_n0 c10] at hQ; exact hQ)
  | (rw [bI_n0 c2] at hQ; exact hQ)
  | exact absurd c25 (by decide))
    · refine x_iconst (v := 2) d_Mo_throwing_13 (by decide) ?_
      refine x_goto (tgt := 18) d_Mo_throwing_14 (by decide) ?_
      refine x_putI d_Mo_throwing_18 (w_Mo_m_117 _) rfl (by first | rfl | decide) (by first | rfl | decide) (by first | exact hM.1 | exact hM.s rfl | assumption) ?_
      first | refine x_aload_n d_Mo_throwing_21 rfl rfl ?_ | refine x_aloadN_n d_Mo_throwing_21 rfl rfl ?_ | refine x_aloadE_n d_Mo_throwing_21 rfl rfl ?_ | refine x_aloadO_n d_Mo_throwing_21 rfl rfl ?_
      refine x_getI d_Mo_throwing_22 f_Mo_117 rfl (by first | exact hM.1 | exact hM.s rfl | assumption) ?_
      rw [wI_s]
      refine x_if_le (tgt := 32) d_Mo_throwing_25 (by decide) (fun c25 => ?_) (fun c25 => ?_)
      · refine x_iconst (v := 0) d_Mo_throwing_32 (by decide) ?_
        exact x_ireturn d_Mo_throwing_33 rfl (by first | rfl | decide) (by
  have q0 := c25
  first
  | (rw [bI_0 c2, bI_0 c10] at hQ; exact hQ)
  | (rw [bI_0 c2, bI_n0 c10] at hQ; exact hQ)
  | (rw [bI_n0 c2] at hQ; exact hQ)
  | exact absurd c25 (by decide))
      · refine x_iconst (v := 1) d_Mo_throwing_28 (by decide) ?_
        refine x_goto (tgt := 33) d_Mo_throwing_29 (by decide) ?_
        exact x_ireturn d_Mo_throwing_33 rfl (by first | rfl | decide) (by
  have q0 := c25
  first
  | (rw [bI_0 c2, bI_0 c10] at hQ; exact hQ)
  | (rw [bI_0 c2, bI_n0 c10] at hQ; exact hQ)
  | (rw [bI_n0 c2] at hQ; exact hQ)
  | exact absurd c25 (by decide))
  · refine x_iconst (v := 1) d_Mo_throwing_5 (by decide) ?_
    refine x_goto (tgt := 18) d_Mo_throwing_6 (by decide) ?_
    refine x_putI d_Mo_throwing_18 (w_Mo_m_117 _) rfl (by first | rfl | decide) (by first | rfl | decide) (by first | exact hM.1 | exact hM.s rfl | assumption) ?_
    first | refine x_aload_n d_Mo_throwing_21 rfl rfl ?_ | refine x_aloadN_n d_Mo_throwing_21 rfl rfl ?_ | refine x_aloadE_n d_Mo_throwing_21 rfl rfl ?_ | refine x_aloadO_n d_Mo_throwing_21 rfl rfl ?_
    refine x_getI d_Mo_throwing_22 f_Mo_117 rfl (by first | exact hM.1 | exact hM.s rfl | assumption) ?_
    rw [wI_s]
    refine x_if_le (tgt := 32) d_Mo_throwing_25 (by decide) (fun c25 => ?_) (fun c25 => ?_)
    · refine x_iconst (v := 0) d_Mo_throwing_32 (by decide) ?_
      exact x_ireturn d_Mo_throwing_33 rfl (by first | rfl | decide) (by
  have q0 := c25
  first
  | (rw [bI_0 c2, bI_0 c10] at hQ; exact hQ)
  | (rw [bI_0 c2, bI_n0 c10] at hQ; exact hQ)
  | (rw [bI_n0 c2] at hQ; exact hQ)
  | exact absurd c25 (by decide))
    · refine x_iconst (v := 1) d_Mo_throwing_28 (by decide) ?_
      refine x_goto (tgt := 33) d_Mo_throwing_29 (by decide) ?_
      exact x_ireturn d_Mo_throwing_33 rfl (by first | rfl | decide) (by
  have q0 := c25
  first
  | (rw [bI_0 c2, bI_0 c10] at hQ; exact hQ)
  | (rw [bI_0 c2, bI_n0 c10] at hQ; exact hQ)
  | (rw [bI_n0 c2] at hQ; exact hQ)
  | exact absurd c25 (by decide))
def bO (c : Int32) : Int32 := if c = 101 then 1 else if c = 104 then 1 else if c = 102 then 2 else if c = 105 then 2 else 0
set_option maxRecDepth 10000 in
set_option maxHeartbeats 1000000 in
theorem c_Mo_builtOf {G : Ctx} {d : Nat} {Γ : List Sh} {σ : Mem} {Q : Option Value → List Sh → Mem → Prop} {c : Int32} (hQ : Q (some (.int (bO c))) Γ σ) : Ct G M_Mo_builtOf d 0 0 [.int c] Γ σ Q := by
  refine Ct.of (lv := [some (.int c)]) (ll := []) rfl rfl (EN.cat (n := 0) ⟨rfl, trivial⟩ (Nat.le_of_ble_eq_true rfl)) ?_
  refine x_iload_n d_Mo_builtOf_0 rfl rfl ?_
  refine x_bipush (v := 101) d_Mo_builtOf_1 (by decide) ?_
  refine x_icmp_eq (tgt := 12) d_Mo_builtOf_3 (by decide) (fun c3 => ?_) (fun c3 => ?_)
  · refine x_iconst (v := 1) d_Mo_builtOf_12 (by decide) ?_
    refine x_goto (tgt := 33) d_Mo_builtOf_13 (by decide) ?_
    exact x_ireturn d_Mo_builtOf_33 rfl (by first | rfl | decide) (by
  unfold bO at hQ
  first
  | (rw [if_pos c3] at hQ; exact hQ)
  | (rw [if_neg c3, if_pos c9] at hQ; exact hQ)
  | (rw [if_neg c3, if_neg c9, if_pos c19] at hQ; exact hQ)
  | (rw [if_neg c3, if_neg c9, if_neg c19, if_pos c25] at hQ; exact hQ)
  | (rw [if_neg c3, if_neg c9, if_neg c19, if_neg c25] at hQ; exact hQ))
  · refine x_iload_n d_Mo_builtOf_6 rfl rfl ?_
    refine x_bipush (v := 104) d_Mo_builtOf_7 (by decide) ?_
    refine x_icmp_ne (tgt := 16) d_Mo_builtOf_9 (by decide) (fun c9 => ?_) (fun c9 => ?_)
    · refine x_iload_n d_Mo_builtOf_16 rfl rfl ?_
      refine x_bipush (v := 102) d_Mo_builtOf_17 (by decide) ?_
      refine x_icmp_eq (tgt := 28) d_Mo_builtOf_19 (by decide) (fun c19 => ?_) (fun c19 => ?_)
      · refine x_iconst (v := 2) d_Mo_builtOf_28 (by decide) ?_
        refine x_goto (tgt := 33) d_Mo_builtOf_29 (by decide) ?_
        exact x_ireturn d_Mo_builtOf_33 rfl (by first | rfl | decide) (by
  unfold bO at hQ
  first
  | (rw [if_pos c3] at hQ; exact hQ)
  | (rw [if_neg c3, if_pos c9] at hQ; exact hQ)
  | (rw [if_neg c3, if_neg c9, if_pos c19] at hQ; exact hQ)
  | (rw [if_neg c3, if_neg c9, if_neg c19, if_pos c25] at hQ; exact hQ)
  | (rw [if_neg c3, if_neg c9, if_neg c19, if_neg c25] at hQ; exact hQ))
      · refine x_iload_n d_Mo_builtOf_22 rfl rfl ?_
        refine x_bipush (v := 105) d_Mo_builtOf_23 (by decide) ?_
        refine x_icmp_ne (tgt := 32) d_Mo_builtOf_25 (by decide) (fun c25 => ?_) (fun c25 => ?_)
        · refine x_iconst (v := 0) d_Mo_builtOf_32 (by decide) ?_
          exact x_ireturn d_Mo_builtOf_33 rfl (by first | rfl | decide) (by
  unfold bO at hQ
  first
  | (rw [if_pos c3] at hQ; exact hQ)
  | (rw [if_neg c3, if_pos c9] at hQ; exact hQ)
  | (rw [if_neg c3, if_neg c9, if_pos c19] at hQ; exact hQ)
  | (rw [if_neg c3, if_neg c9, if_neg c19, if_pos c25] at hQ; exact hQ)
  | (rw [if_neg c3, if_neg c9, if_neg c19, if_neg c25] at hQ; exact hQ))
        · refine x_iconst (v := 2) d_Mo_builtOf_28 (by decide) ?_
          refine x_goto (tgt := 33) d_Mo_builtOf_29 (by decide) ?_
          exact x_ireturn d_Mo_builtOf_33 rfl (by first | rfl | decide) (by
  unfold bO at hQ
  first
  | (rw [if_pos c3] at hQ; exact hQ)
  | (rw [if_neg c3, if_pos c9] at hQ; exact hQ)
  | (rw [if_neg c3, if_neg c9, if_pos c19] at hQ; exact hQ)
  | (rw [if_neg c3, if_neg c9, if_neg c19, if_pos c25] at hQ; exact hQ)
  | (rw [if_neg c3, if_neg c9, if_neg c19, if_neg c25] at hQ; exact hQ))
    · refine x_iconst (v := 1) d_Mo_builtOf_12 (by decide) ?_
      refine x_goto (tgt := 33) d_Mo_builtOf_13 (by decide) ?_
      exact x_ireturn d_Mo_builtOf_33 rfl (by first | rfl | decide) (by
  unfold bO at hQ
  first
  | (rw [if_pos c3] at hQ; exact hQ)
  | (rw [if_neg c3, if_pos c9] at hQ; exact hQ)
  | (rw [if_neg c3, if_neg c9, if_pos c19] at hQ; exact hQ)
  | (rw [if_neg c3, if_neg c9, if_neg c19, if_pos c25] at hQ; exact hQ)
  | (rw [if_neg c3, if_neg c9, if_neg c19, if_neg c25] at hQ; exact hQ))
set_option maxRecDepth 10000 in
set_option maxHeartbeats 1000000 in
theorem c_Mo_signOf {G : Ctx} {d : Nat} {Γ : List Sh} {σ : Mem} {Q : Option Value → List Sh → Mem → Prop} {c : Int32} (hQ : Q (some (.int (sgn c))) Γ σ) : Ct G M_Mo_signOf d 0 0 [.int c] Γ σ Q := by
  refine Ct.of (lv := [some (.int c)]) (ll := []) rfl rfl (EN.cat (n := 0) ⟨rfl, trivial⟩ (Nat.le_of_ble_eq_true rfl)) ?_
  refine x_iload_n d_Mo_signOf_0 rfl rfl ?_
  refine x_bipush (v := 97) d_Mo_signOf_1 (by decide) ?_
  refine x_icmp_lt (tgt := 17) d_Mo_signOf_3 (by decide) (fun c3 => ?_) (fun c3 => ?_)
  · refine x_iload_n d_Mo_signOf_17 rfl rfl ?_
    refine x_bipush (v := 75) d_Mo_signOf_18 (by decide) ?_
    refine x_icmp_lt (tgt := 37) d_Mo_signOf_20 (by decide) (fun c20 => ?_) (fun c20 => ?_)
    · refine x_iload_n d_Mo_signOf_37 rfl rfl ?_
      refine x_bipush (v := 48) d_Mo_signOf_38 (by decide) ?_
      refine x_icmp_lt (tgt := 60) d_Mo_signOf_40 (by decide) (fun c40 => ?_) (fun c40 => ?_)
      · refine x_iconst (v := -1) d_Mo_signOf_60 (by decide) ?_
        exact x_ireturn d_Mo_signOf_61 rfl (by first | rfl | decide) (by
  unfold sgn at hQ
  first
  | (simp only [c3, c9, c20, c26, c40, c46, if_true, if_false] at hQ; exact hQ)
  | (simp only [c3, c20, c26, c40, c46, if_true, if_false] at hQ; exact hQ)
  | (simp only [c3, c9, c20, c40, c46, if_true, if_false] at hQ; exact hQ)
  | (simp only [c3, c20, c40, c46, if_true, if_false] at hQ; exact hQ)
  | (simp only [c3, c9, c20, c26, c40, if_true, if_false] at hQ; exact hQ)
  | (simp only [c3, c20, c26, c40, if_true, if_false] at hQ; exact hQ)
  | (simp only [c3, c9, c20, c40, if_true, if_false] at hQ; exact hQ)
  | (simp only [c3, c20, c40, if_true, if_false] at hQ; exact hQ)
  | (simp only [c3, c9, c20, c26, if_true, if_false] at hQ; exact hQ)
  | (simp only [c3, c20, c26, if_true, if_false] at hQ; exact hQ)
  | (simp only [c3, c9, if_true, if_false] at hQ; exact hQ))
      · refine x_iload_n d_Mo_signOf_43 rfl rfl ?_
        refine x_bipush (v := 55) d_Mo_signOf_44 (by decide) ?_
        refine x_icmp_gt (tgt := 60) d_Mo_signOf_46 (by decide) (fun c46 => ?_) (fun c46 => ?_)
        · refine x_iconst (v := -1) d_Mo_signOf_60 (by decide) ?_
          exact x_ireturn d_Mo_signOf_61 rfl (by first | rfl | decide) (by
  unfold sgn at hQ
  first
  | (simp only [c3, c9, c20, c26, c40, c46, if_true, if_false] at hQ; exact hQ)
  | (simp only [c3, c20, c26, c40, c46, if_true, if_false] at hQ; exact hQ)
  | (simp only [c3, c9, c20, c40, c46, if_true, if_false] at hQ; exact hQ)
  | (simp only [c3, c20, c40, c46, if_true, if_false] at hQ; exact hQ)
  | (simp only [c3, c9, c20, c26, c40, if_true, if_false] at hQ; exact hQ)
  | (simp only [c3, c20, c26, c40, if_true, if_false] at hQ; exact hQ)
  | (simp only [c3, c9, c20, c40, if_true, if_false] at hQ; exact hQ)
  | (simp only [c3, c20, c40, if_true, if_false] at hQ; exact hQ)
  | (simp only [c3, c9, c20, c26, if_true, if_false] at hQ; exact hQ)
  | (simp only [c3, c20, c26, if_true, if_false] at hQ; exact hQ)
  | (simp only [c3, c9, if_true, if_false] at hQ; exact hQ))
        · refine x_sipush (v := 200) d_Mo_signOf_49 (by decide) ?_
          refine x_iload_n d_Mo_signOf_52 rfl rfl ?_
          refine x_iadd d_Mo_signOf_53 ?_
          refine x_bipush (v := 48) d_Mo_signOf_54 (by decide) ?_
          refine x_isub d_Mo_signOf_56 ?_
          refine x_goto (tgt := 61) d_Mo_signOf_57 (by decide) ?_
          exact x_ireturn d_Mo_signOf_61 rfl (by first | rfl | decide) (by
  unfold sgn at hQ
  first
  | (simp only [c3, c9, c20, c26, c40, c46, if_true, if_false] at hQ; exact hQ)
  | (simp only [c3, c20, c26, c40, c46, if_true, if_false] at hQ; exact hQ)
  | (simp only [c3, c9, c20, c40, c46, if_true, if_false] at hQ; exact hQ)
  | (simp only [c3, c20, c40, c46, if_true, if_false] at hQ; exact hQ)
  | (simp only [c3, c9, c20, c26, c40, if_true, if_false] at hQ; exact hQ)
  | (simp only [c3, c20, c26, c40, if_true, if_false] at hQ; exact hQ)
  | (simp only [c3, c9, c20, c40, if_true, if_false] at hQ; exact hQ)
  | (simp only [c3, c20, c40, if_true, if_false] at hQ; exact hQ)
  | (simp only [c3, c9, c20, c26, if_true, if_false] at hQ; exact hQ)
  | (simp only [c3, c20, c26, if_true, if_false] at hQ; exact hQ)
  | (simp only [c3, c9, if_true, if_false] at hQ; exact hQ))
    · refine x_iload_n d_Mo_signOf_23 rfl rfl ?_
      refine x_bipush (v := 80) d_Mo_signOf_24 (by decide) ?_
      refine x_icmp_gt (tgt := 37) d_Mo_signOf_26 (by decide) (fun c26 => ?_) (fun c26 => ?_)
      · refine x_iload_n d_Mo_signOf_37 rfl rfl ?_
        refine x_bipush (v := 48) d_Mo_signOf_38 (by decide) ?_
        refine x_icmp_lt (tgt := 60) d_Mo_signOf_40 (by decide) (fun c40 => ?_) (fun c40 => ?_)
        · refine x_iconst (v := -1) d_Mo_signOf_60 (by decide) ?_
          exact x_ireturn d_Mo_signOf_61 rfl (by first | rfl | decide) (by
  unfold sgn at hQ
  first
  | (simp only [c3, c9, c20, c26, c40, c46, if_true, if_false] at hQ; exact hQ)
  | (simp only [c3, c20, c26, c40, c46, if_true, if_false] at hQ; exact hQ)
  | (simp only [c3, c9, c20, c40, c46, if_true, if_false] at hQ; exact hQ)
  | (simp only [c3, c20, c40, c46, if_true, if_false] at hQ; exact hQ)
  | (simp only [c3, c9, c20, c26, c40, if_true, if_false] at hQ; exact hQ)
  | (simp only [c3, c20, c26, c40, if_true, if_false] at hQ; exact hQ)
  | (simp only [c3, c9, c20, c40, if_true, if_false] at hQ; exact hQ)
  | (simp only [c3, c20, c40, if_true, if_false] at hQ; exact hQ)
  | (simp only [c3, c9, c20, c26, if_true, if_false] at hQ; exact hQ)
  | (simp only [c3, c20, c26, if_true, if_false] at hQ; exact hQ)
  | (simp only [c3, c9, if_true, if_false] at hQ; exact hQ))
        · refine x_iload_n d_Mo_signOf_43 rfl rfl ?_
          refine x_bipush (v := 55) d_Mo_signOf_44 (by decide) ?_
          refine x_icmp_gt (tgt := 60) d_Mo_signOf_46 (by decide) (fun c46 => ?_) (fun c46 => ?_)
          · refine x_iconst (v := -1) d_Mo_signOf_60 (by decide) ?_
            exact x_ireturn d_Mo_signOf_61 rfl (by first | rfl | decide) (by
  unfold sgn at hQ
  first
  | (simp only [c3, c9, c20, c26, c40, c46, if_true, if_false] at hQ; exact hQ)
  | (simp only [c3, c20, c26, c40, c46, if_true, if_false] at hQ; exact hQ)
  | (simp only [c3, c9, c20, c40, c46, if_true, if_false] at hQ; exact hQ)
  | (simp only [c3, c20, c40, c46, if_true, if_false] at hQ; exact hQ)
  | (simp only [c3, c9, c20, c26, c40, if_true, if_false] at hQ; exact hQ)
  | (simp only [c3, c20, c26, c40, if_true, if_false] at hQ; exact hQ)
  | (simp only [c3, c9, c20, c40, if_true, if_false] at hQ; exact hQ)
  | (simp only [c3, c20, c40, if_true, if_false] at hQ; exact hQ)
  | (simp only [c3, c9, c20, c26, if_true, if_false] at hQ; exact hQ)
  | (simp only [c3, c20, c26, if_true, if_false] at hQ; exact hQ)
  | (simp only [c3, c9, if_true, if_false] at hQ; exact hQ))
          · refine x_sipush (v := 200) d_Mo_signOf_49 (by decide) ?_
            refine x_iload_n d_Mo_signOf_52 rfl rfl ?_
            refine x_iadd d_Mo_signOf_53 ?_
            refine x_bipush (v := 48) d_Mo_signOf_54 (by decide) ?_
            refine x_isub d_Mo_signOf_56 ?_
            refine x_goto (tgt := 61) d_Mo_signOf_57 (by decide) ?_
            exact x_ireturn d_Mo_signOf_61 rfl (by first | rfl | decide) (by
  unfold sgn at hQ
  first
  | (simp only [c3, c9, c20, c26, c40, c46, if_true, if_false] at hQ; exact hQ)
  | (simp only [c3, c20, c26, c40, c46, if_true, if_false] at hQ; exact hQ)
  | (simp only [c3, c9, c20, c40, c46, if_true, if_false] at hQ; exact hQ)
  | (simp only [c3, c20, c40, c46, if_true, if_false] at hQ; exact hQ)
  | (simp only [c3, c9, c20, c26, c40, if_true, if_false] at hQ; exact hQ)
  | (simp only [c3, c20, c26, c40, if_true, if_false] at hQ; exact hQ)
  | (simp only [c3, c9, c20, c40, if_true, if_false] at hQ; exact hQ)
  | (simp only [c3, c20, c40, if_true, if_false] at hQ; exact hQ)
  | (simp only [c3, c9, c20, c26, if_true, if_false] at hQ; exact hQ)
  | (simp only [c3, c20, c26, if_true, if_false] at hQ; exact hQ)
  | (simp only [c3, c9, if_true, if_false] at hQ; exact hQ))
      · refine x_bipush (v := 100) d_Mo_signOf_29 (by decide) ?_
        refine x_iload_n d_Mo_signOf_31 rfl rfl ?_
        refine x_iadd d_Mo_signOf_32 ?_
        refine x_bipush (v := 75) d_Mo_signOf_33 (by decide) ?_
        refine x_isub d_Mo_signOf_35 ?_
        exact x_ireturn d_Mo_signOf_36 rfl (by first | rfl | decide) (by
  unfold sgn at hQ
  first
  | (simp only [c3, c9, c20, c26, c40, c46, if_true, if_false] at hQ; exact hQ)
  | (simp only [c3, c20, c26, c40, c46, if_true, if_false] at hQ; exact hQ)
  | (simp only [c3, c9, c20, c40, c46, if_true, if_false] at hQ; exact hQ)
  | (simp only [c3, c20, c40, c46, if_true, if_false] at hQ; exact hQ)
  | (simp only [c3, c9, c20, c26, c40, if_true, if_false] at hQ; exact hQ)
  | (simp only [c3, c20, c26, c40, if_true, if_false] at hQ; exact hQ)
  | (simp only [c3, c9, c20, c40, if_true, if_false] at hQ; exact hQ)
  | (simp only [c3, c20, c40, if_true, if_false] at hQ; exact hQ)
  | (simp only [c3, c9, c20, c26, if_true, if_false] at hQ; exact hQ)
  | (simp only [c3, c20, c26, if_true, if_false] at hQ; exact hQ)
  | (simp only [c3, c9, if_true, if_false] at hQ; exact hQ))
  · refine x_iload_n d_Mo_signOf_6 rfl rfl ?_
    refine x_bipush (v := 104) d_Mo_signOf_7 (by decide) ?_
    refine x_icmp_gt (tgt := 17) d_Mo_signOf_9 (by decide) (fun c9 => ?_) (fun c9 => ?_)
    · refine x_iload_n d_Mo_signOf_17 rfl rfl ?_
      refine x_bipush (v := 75) d_Mo_signOf_18 (by decide) ?_
      refine x_icmp_lt (tgt := 37) d_Mo_signOf_20 (by decide) (fun c20 => ?_) (fun c20 => ?_)
      · refine x_iload_n d_Mo_signOf_37 rfl rfl ?_
        refine x_bipush (v := 48) d_Mo_signOf_38 (by decide) ?_
        refine x_icmp_lt (tgt := 60) d_Mo_signOf_40 (by decide) (fun c40 => ?_) (fun c40 => ?_)
        · refine x_iconst (v := -1) d_Mo_signOf_60 (by decide) ?_
          exact x_ireturn d_Mo_signOf_61 rfl (by first | rfl | decide) (by
  unfold sgn at hQ
  first
  | (simp only [c3, c9, c20, c26, c40, c46, if_true, if_false] at hQ; exact hQ)
  | (simp only [c3, c20, c26, c40, c46, if_true, if_false] at hQ; exact hQ)
  | (simp only [c3, c9, c20, c40, c46, if_true, if_false] at hQ; exact hQ)
  | (simp only [c3, c20, c40, c46, if_true, if_false] at hQ; exact hQ)
  | (simp only [c3, c9, c20, c26, c40, if_true, if_false] at hQ; exact hQ)
  | (simp only [c3, c20, c26, c40, if_true, if_false] at hQ; exact hQ)
  | (simp only [c3, c9, c20, c40, if_true, if_false] at hQ; exact hQ)
  | (simp only [c3, c20, c40, if_true, if_false] at hQ; exact hQ)
  | (simp only [c3, c9, c20, c26, if_true, if_false] at hQ; exact hQ)
  | (simp only [c3, c20, c26, if_true, if_false] at hQ; exact hQ)
  | (simp only [c3, c9, if_true, if_false] at hQ; exact hQ))
        · refine x_iload_n d_Mo_signOf_43 rfl rfl ?_
          refine x_bipush (v := 55) d_Mo_signOf_44 (by decide) ?_
          refine x_icmp_gt (tgt := 60) d_Mo_signOf_46 (by decide) (fun c46 => ?_) (fun c46 => ?_)
          · refine x_iconst (v := -1) d_Mo_signOf_60 (by decide) ?_
            exact x_ireturn d_Mo_signOf_61 rfl (by first | rfl | decide) (by
  unfold sgn at hQ
  first
  | (simp only [c3, c9, c20, c26, c40, c46, if_true, if_false] at hQ; exact hQ)
  | (simp only [c3, c20, c26, c40, c46, if_true, if_false] at hQ; exact hQ)
  | (simp only [c3, c9, c20, c40, c46, if_true, if_false] at hQ; exact hQ)
  | (simp only [c3, c20, c40, c46, if_true, if_false] at hQ; exact hQ)
  | (simp only [c3, c9, c20, c26, c40, if_true, if_false] at hQ; exact hQ)
  | (simp only [c3, c20, c26, c40, if_true, if_false] at hQ; exact hQ)
  | (simp only [c3, c9, c20, c40, if_true, if_false] at hQ; exact hQ)
  | (simp only [c3, c20, c40, if_true, if_false] at hQ; exact hQ)
  | (simp only [c3, c9, c20, c26, if_true, if_false] at hQ; exact hQ)
  | (simp only [c3, c20, c26, if_true, if_false] at hQ; exact hQ)
  | (simp only [c3, c9, if_true, if_false] at hQ; exact hQ))
          · refine x_sipush (v := 200) d_Mo_signOf_49 (by decide) ?_
            refine x_iload_n d_Mo_signOf_52 rfl rfl ?_
            refine x_iadd d_Mo_signOf_53 ?_
            refine x_bipush (v := 48) d_Mo_signOf_54 (by decide) ?_
            refine x_isub d_Mo_signOf_56 ?_
            refine x_goto (tgt := 61) d_Mo_signOf_57 (by decide) ?_
            exact x_ireturn d_Mo_signOf_61 rfl (by first | rfl | decide) (by
  unfold sgn at hQ
  first
  | (simp only [c3, c9, c20, c26, c40, c46, if_true, if_false] at hQ; exact hQ)
  | (simp only [c3, c20, c26, c40, c46, if_true, if_false] at hQ; exact hQ)
  | (simp only [c3, c9, c20, c40, c46, if_true, if_false] at hQ; exact hQ)
  | (simp only [c3, c20, c40, c46, if_true, if_false] at hQ; exact hQ)
  | (simp only [c3, c9, c20, c26, c40, if_true, if_false] at hQ; exact hQ)
  | (simp only [c3, c20, c26, c40, if_true, if_false] at hQ; exact hQ)
  | (simp only [c3, c9, c20, c40, if_true, if_false] at hQ; exact hQ)
  | (simp only [c3, c20, c40, if_true, if_false] at hQ; exact hQ)
  | (simp only [c3, c9, c20, c26, if_true, if_false] at hQ; exact hQ)
  | (simp only [c3, c20, c26, if_true, if_false] at hQ; exact hQ)
  | (simp only [c3, c9, if_true, if_false] at hQ; exact hQ))
      · refine x_iload_n d_Mo_signOf_23 rfl rfl ?_
        refine x_bipush (v := 80) d_Mo_signOf_24 (by decide) ?_
        refine x_icmp_gt (tgt := 37) d_Mo_signOf_26 (by decide) (fun c26 => ?_) (fun c26 => ?_)
        · refine x_iload_n d_Mo_signOf_37 rfl rfl ?_
          refine x_bipush (v := 48) d_Mo_signOf_38 (by decide) ?_
          refine x_icmp_lt (tgt := 60) d_Mo_signOf_40 (by decide) (fun c40 => ?_) (fun c40 => ?_)
          · refine x_iconst (v := -1) d_Mo_signOf_60 (by decide) ?_
            exact x_ireturn d_Mo_signOf_61 rfl (by first | rfl | decide) (by
  unfold sgn at hQ
  first
  | (simp only [c3, c9, c20, c26, c40, c46, if_true, if_false] at hQ; exact hQ)
  | (simp only [c3, c20, c26, c40, c46, if_true, if_false] at hQ; exact hQ)
  | (simp only [c3, c9, c20, c40, c46, if_true, if_false] at hQ; exact hQ)
  | (simp only [c3, c20, c40, c46, if_true, if_false] at hQ; exact hQ)
  | (simp only [c3, c9, c20, c26, c40, if_true, if_false] at hQ; exact hQ)
  | (simp only [c3, c20, c26, c40, if_true, if_false] at hQ; exact hQ)
  | (simp only [c3, c9, c20, c40, if_true, if_false] at hQ; exact hQ)
  | (simp only [c3, c20, c40, if_true, if_false] at hQ; exact hQ)
  | (simp only [c3, c9, c20, c26, if_true, if_false] at hQ; exact hQ)
  | (simp only [c3, c20, c26, if_true, if_false] at hQ; exact hQ)
  | (simp only [c3, c9, if_true, if_false] at hQ; exact hQ))
          · refine x_iload_n d_Mo_signOf_43 rfl rfl ?_
            refine x_bipush (v := 55) d_Mo_signOf_44 (by decide) ?_
            refine x_icmp_gt (tgt := 60) d_Mo_signOf_46 (by decide) (fun c46 => ?_) (fun c46 => ?_)
            · refine x_iconst (v := -1) d_Mo_signOf_60 (by decide) ?_
              exact x_ireturn d_Mo_signOf_61 rfl (by first | rfl | decide) (by
  unfold sgn at hQ
  first
  | (simp only [c3, c9, c20, c26, c40, c46, if_true, if_false] at hQ; exact hQ)
  | (simp only [c3, c20, c26, c40, c46, if_true, if_false] at hQ; exact hQ)
  | (simp only [c3, c9, c20, c40, c46, if_true, if_false] at hQ; exact hQ)
  | (simp only [c3, c20, c40, c46, if_true, if_false] at hQ; exact hQ)
  | (simp only [c3, c9, c20, c26, c40, if_true, if_false] at hQ; exact hQ)
  | (simp only [c3, c20, c26, c40, if_true, if_false] at hQ; exact hQ)
  | (simp only [c3, c9, c20, c40, if_true, if_false] at hQ; exact hQ)
  | (simp only [c3, c20, c40, if_true, if_false] at hQ; exact hQ)
  | (simp only [c3, c9, c20, c26, if_true, if_false] at hQ; exact hQ)
  | (simp only [c3, c20, c26, if_true, if_false] at hQ; exact hQ)
  | (simp only [c3, c9, if_true, if_false] at hQ; exact hQ))
            · refine x_sipush (v := 200) d_Mo_signOf_49 (by decide) ?_
              refine x_iload_n d_Mo_signOf_52 rfl rfl ?_
              refine x_iadd d_Mo_signOf_53 ?_
              refine x_bipush (v := 48) d_Mo_signOf_54 (by decide) ?_
              refine x_isub d_Mo_signOf_56 ?_
              refine x_goto (tgt := 61) d_Mo_signOf_57 (by decide) ?_
              exact x_ireturn d_Mo_signOf_61 rfl (by first | rfl | decide) (by
  unfold sgn at hQ
  first
  | (simp only [c3, c9, c20, c26, c40, c46, if_true, if_false] at hQ; exact hQ)
  | (simp only [c3, c20, c26, c40, c46, if_true, if_false] at hQ; exact hQ)
  | (simp only [c3, c9, c20, c40, c46, if_true, if_false] at hQ; exact hQ)
  | (simp only [c3, c20, c40, c46, if_true, if_false] at hQ; exact hQ)
  | (simp only [c3, c9, c20, c26, c40, if_true, if_false] at hQ; exact hQ)
  | (simp only [c3, c20, c26, c40, if_true, if_false] at hQ; exact hQ)
  | (simp only [c3, c9, c20, c40, if_true, if_false] at hQ; exact hQ)
  | (simp only [c3, c20, c40, if_true, if_false] at hQ; exact hQ)
  | (simp only [c3, c9, c20, c26, if_true, if_false] at hQ; exact hQ)
  | (simp only [c3, c20, c26, if_true, if_false] at hQ; exact hQ)
  | (simp only [c3, c9, if_true, if_false] at hQ; exact hQ))
        · refine x_bipush (v := 100) d_Mo_signOf_29 (by decide) ?_
          refine x_iload_n d_Mo_signOf_31 rfl rfl ?_
          refine x_iadd d_Mo_signOf_32 ?_
          refine x_bipush (v := 75) d_Mo_signOf_33 (by decide) ?_
          refine x_isub d_Mo_signOf_35 ?_
          exact x_ireturn d_Mo_signOf_36 rfl (by first | rfl | decide) (by
  unfold sgn at hQ
  first
  | (simp only [c3, c9, c20, c26, c40, c46, if_true, if_false] at hQ; exact hQ)
  | (simp only [c3, c20, c26, c40, c46, if_true, if_false] at hQ; exact hQ)
  | (simp only [c3, c9, c20, c40, c46, if_true, if_false] at hQ; exact hQ)
  | (simp only [c3, c20, c40, c46, if_true, if_false] at hQ; exact hQ)
  | (simp only [c3, c9, c20, c26, c40, if_true, if_false] at hQ; exact hQ)
  | (simp only [c3, c20, c26, c40, if_true, if_false] at hQ; exact hQ)
  | (simp only [c3, c9, c20, c40, if_true, if_false] at hQ; exact hQ)
  | (simp only [c3, c20, c40, if_true, if_false] at hQ; exact hQ)
  | (simp only [c3, c9, c20, c26, if_true, if_false] at hQ; exact hQ)
  | (simp only [c3, c20, c26, if_true, if_false] at hQ; exact hQ)
  | (simp only [c3, c9, if_true, if_false] at hQ; exact hQ))
    · refine x_iload_n d_Mo_signOf_12 rfl rfl ?_
      refine x_bipush (v := 97) d_Mo_signOf_13 (by decide) ?_
      refine x_isub d_Mo_signOf_15 ?_
      exact x_ireturn d_Mo_signOf_16 rfl (by first | rfl | decide) (by
  unfold sgn at hQ
  first
  | (simp only [c3, c9, c20, c26, c40, c46, if_true, if_false] at hQ; exact hQ)
  | (simp only [c3, c20, c26, c40, c46, if_true, if_false] at hQ; exact hQ)
  | (simp only [c3, c9, c20, c40, c46, if_true, if_false] at hQ; exact hQ)
  | (simp only [c3, c20, c40, c46, if_true, if_false] at hQ; exact hQ)
  | (simp only [c3, c9, c20, c26, c40, if_true, if_false] at hQ; exact hQ)
  | (simp only [c3, c20, c26, c40, if_true, if_false] at hQ; exact hQ)
  | (simp only [c3, c9, c20, c40, if_true, if_false] at hQ; exact hQ)
  | (simp only [c3, c20, c40, if_true, if_false] at hQ; exact hQ)
  | (simp only [c3, c9, c20, c26, if_true, if_false] at hQ; exact hQ)
  | (simp only [c3, c20, c26, if_true, if_false] at hQ; exact hQ)
  | (simp only [c3, c9, if_true, if_false] at hQ; exact hQ))
set_option maxRecDepth 10000 in
set_option maxHeartbeats 1000000 in
theorem c_Mo_becomes {G : Ctx} {d : Nat} {Γ : List Sh} {σ : Mem} {Q : Option Value → List Sh → Mem → Prop} {n : Nat} {x : Int32} (hM : MoS Γ σ) (hn : n < 48) (hQ : Q none Γ (wI (wI σ 400 n x) 405 n (σ.1 391 13))) : Ct G M_Mo_becomes d 0 0 [rf G 391, .int (nI n), .int x] Γ σ Q := by
  refine Ct.of (lv := [some (rf G 391), some (.int (nI n)), some (.int x)]) (ll := []) rfl rfl (EN.cat (n := 0) ⟨rfl, rfl, rfl, trivial⟩ (Nat.le_of_ble_eq_true rfl)) ?_
  first | refine x_aload_n d_Mo_becomes_0 rfl rfl ?_ | refine x_aloadN_n d_Mo_becomes_0 rfl rfl ?_ | refine x_aloadE_n d_Mo_becomes_0 rfl rfl ?_ | refine x_aloadO_n d_Mo_becomes_0 rfl rfl ?_
  refine x_getR d_Mo_becomes_1 f_Mo_35 rfl (by first | exact hM.1 | exact hM.s rfl | assumption) (hM.r rfl) ?_
  refine x_iload_n d_Mo_becomes_4 rfl rfl ?_
  refine x_iload_n d_Mo_becomes_5 rfl rfl ?_
  refine x_iast d_Mo_becomes_6 (by first | exact hM.1 | exact hM.s rfl | assumption) (vp_in_nI hn (by omega)) ?_
  rw [nI_clamp (by omega)]
  first | refine x_aload_n d_Mo_becomes_7 rfl rfl ?_ | refine x_aloadN_n d_Mo_becomes_7 rfl rfl ?_ | refine x_aloadE_n d_Mo_becomes_7 rfl rfl ?_ | refine x_aloadO_n d_Mo_becomes_7 rfl rfl ?_
  refine x_getR d_Mo_becomes_8 f_Mo_50 rfl (by first | exact hM.1 | exact hM.s rfl | assumption) (hM.r rfl) ?_
  refine x_iload_n d_Mo_becomes_11 rfl rfl ?_
  first | refine x_aload_n d_Mo_becomes_12 rfl rfl ?_ | refine x_aloadN_n d_Mo_becomes_12 rfl rfl ?_ | refine x_aloadE_n d_Mo_becomes_12 rfl rfl ?_ | refine x_aloadO_n d_Mo_becomes_12 rfl rfl ?_
  refine x_getI d_Mo_becomes_13 f_Mo_180 rfl (by first | exact hM.1 | exact hM.s rfl | assumption) ?_
  refine x_iast d_Mo_becomes_16 (by first | exact hM.1 | exact hM.s rfl | assumption) (vp_in_nI hn (by omega)) ?_
  rw [nI_clamp (by omega), wI_o (show 391 ≠ 400 by decide)]
  exact x_return d_Mo_becomes_17 rfl (hQ)
set_option maxRecDepth 10000 in
set_option maxHeartbeats 1000000 in
theorem c_Mo_put {G : Ctx} {d : Nat} {Γ : List Sh} {σ : Mem} {Q : Option Value → List Sh → Mem → Prop} {n : Nat} {x : Int32} (hM : MoS Γ σ) (hr : σ.1 391 30 = nI n) (hn : n < 20400) (hQ : Q none Γ (wI (wI σ 415 n x) 391 30 (nI (n + 1)))) : Ct G M_Mo_put d 0 0 [rf G 391, .int x] Γ σ Q := by
  refine Ct.of (lv := [some (rf G 391), some (.int x)]) (ll := []) rfl rfl (EN.cat (n := 0) ⟨rfl, rfl, trivial⟩ (Nat.le_of_ble_eq_true rfl)) ?_
  first | refine x_aload_n d_Mo_put_0 rfl rfl ?_ | refine x_aloadN_n d_Mo_put_0 rfl rfl ?_ | refine x_aloadE_n d_Mo_put_0 rfl rfl ?_ | refine x_aloadO_n d_Mo_put_0 rfl rfl ?_
  refine x_getR d_Mo_put_1 f_Mo_80 rfl (by first | exact hM.1 | exact hM.s rfl | assumption) (hM.r rfl) ?_
  first | refine x_aload_n d_Mo_put_4 rfl rfl ?_ | refine x_aloadN_n d_Mo_put_4 rfl rfl ?_ | refine x_aloadE_n d_Mo_put_4 rfl rfl ?_ | refine x_aloadO_n d_Mo_put_4 rfl rfl ?_
  refine x_getI d_Mo_put_5 f_Mo_157 rfl (by first | exact hM.1 | exact hM.s rfl | assumption) ?_
  refine x_iload_n d_Mo_put_8 rfl rfl ?_
  rw [hr]
  refine x_iast d_Mo_put_9 (by first | exact hM.1 | exact hM.s rfl | assumption) (vp_in_nI hn (by omega)) ?_
  rw [nI_clamp (by omega)]
  first | refine x_aload_n d_Mo_put_10 rfl rfl ?_ | refine x_aloadN_n d_Mo_put_10 rfl rfl ?_ | refine x_aloadE_n d_Mo_put_10 rfl rfl ?_ | refine x_aloadO_n d_Mo_put_10 rfl rfl ?_
  refine x_dup d_Mo_put_11 rfl ?_
  refine x_getI d_Mo_put_12 f_Mo_157 rfl (by first | exact hM.1 | exact hM.s rfl | assumption) ?_
  rw [wI_o (show 391 ≠ 415 by decide), hr]
  refine x_iconst (v := 1) d_Mo_put_15 (by decide) ?_
  refine x_iadd d_Mo_put_16 ?_
  first | rw [nI_add] | rw [nI_1] | skip
  refine x_putI d_Mo_put_17 (w_Mo_m_157 _) rfl (by first | rfl | decide) (by first | rfl | decide) (by first | exact hM.1 | exact hM.s rfl | assumption) ?_
  exact x_return d_Mo_put_20 rfl (hQ)
set_option maxRecDepth 10000 in
set_option maxHeartbeats 1000000 in
theorem c_Mo_renew {G : Ctx} {d : Nat} {Γ : List Sh} {σ : Mem} {Q : Option Value → List Sh → Mem → Prop} {n v : Nat} {g : Bool} (hM : MoS Γ σ) (hv : σ.1 391 14 = nI v) (hg : σ.1 391 12 = bI g) (hn : n ≤ 100000) (hvb : v ≤ 100000) (hQ : Q (some (.int (nI v))) Γ (wI (wI σ 391 14 (nI (v + n))) 391 12 (bI (g || decide (100 < v + n))))) : Ct G M_Mo_renew d 0 0 [rf G 391, .int (nI n)] Γ σ Q := by
  refine Ct.of (lv := [some (rf G 391), some (.int (nI n)), none]) (ll := []) rfl rfl (EN.cat (n := 1) ⟨rfl, rfl, trivial⟩ (Nat.le_of_ble_eq_true rfl)) ?_
  first | refine x_aload_n d_Mo_renew_0 rfl rfl ?_ | refine x_aloadN_n d_Mo_renew_0 rfl rfl ?_ | refine x_aloadE_n d_Mo_renew_0 rfl rfl ?_ | refine x_aloadO_n d_Mo_renew_0 rfl rfl ?_
  refine x_getI d_Mo_renew_1 f_Mo_183 rfl (by first | exact hM.1 | exact hM.s rfl | assumption) ?_
  rw [hv]
  refine x_istore_n d_Mo_renew_4 rfl rfl ?_
  first | refine x_aload_n d_Mo_renew_5 rfl rfl ?_ | refine x_aloadN_n d_Mo_renew_5 rfl rfl ?_ | refine x_aloadE_n d_Mo_renew_5 rfl rfl ?_ | refine x_aloadO_n d_Mo_renew_5 rfl rfl ?_
  first | refine x_aload_n d_Mo_renew_6 rfl rfl ?_ | refine x_aloadN_n d_Mo_renew_6 rfl rfl ?_ | refine x_aloadE_n d_Mo_renew_6 rfl rfl ?_ | refine x_aloadO_n d_Mo_renew_6 rfl rfl ?_
  refine x_getI d_Mo_renew_7 f_Mo_183 rfl (by first | exact hM.1 | exact hM.s rfl | assumption) ?_
  rw [hv]
  refine x_iload_n d_Mo_renew_10 rfl rfl ?_
  refine x_iadd d_Mo_renew_11 ?_
  first | rw [nI_add] | rw [nI_1] | skip
  refine x_putI d_Mo_renew_12 (w_Mo_m_183 _) rfl (by first | rfl | decide) (by first | rfl | decide) (by first | exact hM.1 | exact hM.s rfl | assumption) ?_
  first | refine x_aload_n d_Mo_renew_15 rfl rfl ?_ | refine x_aloadN_n d_Mo_renew_15 rfl rfl ?_ | refine x_aloadE_n d_Mo_renew_15 rfl rfl ?_ | refine x_aloadO_n d_Mo_renew_15 rfl rfl ?_
  first | refine x_aload_n d_Mo_renew_16 rfl rfl ?_ | refine x_aloadN_n d_Mo_renew_16 rfl rfl ?_ | refine x_aloadE_n d_Mo_renew_16 rfl rfl ?_ | refine x_aloadO_n d_Mo_renew_16 rfl rfl ?_
  refine x_getI d_Mo_renew_17 f_Mo_177 rfl (by first | exact hM.1 | exact hM.s rfl | assumption) ?_
  rw [wI_j (show 12 ≠ 14 by decide), hg]
  refine x_if_ne (tgt := 32) d_Mo_renew_20 (by decide) (fun c20 => ?_) (fun c20 => ?_)
  · refine x_iconst (v := 1) d_Mo_renew_32 (by decide) ?_
    refine x_goto (tgt := 37) d_Mo_renew_33 (by decide) ?_
    refine x_putI d_Mo_renew_37 (w_Mo_m_177 _) rfl (by first | rfl | decide) (by first | rfl | decide) (by first | exact hM.1 | exact hM.s rfl | assumption) ?_
    refine x_iload_n d_Mo_renew_40 rfl rfl ?_
    exact x_ireturn d_Mo_renew_41 rfl (by first | rfl | decide) (by
  first
  | (rw [bI_n0 c20, Bool.true_or] at hQ; exact hQ)
  | (rw [bI_0 c20, Bool.false_or, decide_eq_false (fun z => nI_ge z (by omega) c29)] at hQ; exact hQ)
  | (rw [bI_0 c20, Bool.false_or, decide_eq_true (Nat.not_le.mp fun z => c29 (show nI (v + n) ≤ nI 100 from nI_le z (by omega)))] at hQ; exact hQ))
  · first | refine x_aload_n d_Mo_renew_23 rfl rfl ?_ | refine x_aloadN_n d_Mo_renew_23 rfl rfl ?_ | refine x_aloadE_n d_Mo_renew_23 rfl rfl ?_ | refine x_aloadO_n d_Mo_renew_23 rfl rfl ?_
    refine x_getI d_Mo_renew_24 f_Mo_183 rfl (by first | exact hM.1 | exact hM.s rfl | assumption) ?_
    rw [wI_s]
    refine x_bipush (v := 100) d_Mo_renew_27 (by decide) ?_
    refine x_icmp_le (tgt := 36) d_Mo_renew_29 (by decide) (fun c29 => ?_) (fun c29 => ?_)
    · refine x_iconst (v := 0) d_Mo_renew_36 (by decide) ?_
      refine x_putI d_Mo_renew_37 (w_Mo_m_177 _) rfl (by first | rfl | decide) (by first | rfl | decide) (by first | exact hM.1 | exact hM.s rfl | assumption) ?_
      refine x_iload_n d_Mo_renew_40 rfl rfl ?_
      exact x_ireturn d_Mo_renew_41 rfl (by first | rfl | decide) (by
  first
  | (rw [bI_n0 c20, Bool.true_or] at hQ; exact hQ)
  | (rw [bI_0 c20, Bool.false_or, decide_eq_false (fun z => nI_ge z (by omega) c29)] at hQ; exact hQ)
  | (rw [bI_0 c20, Bool.false_or, decide_eq_true (Nat.not_le.mp fun z => c29 (show nI (v + n) ≤ nI 100 from nI_le z (by omega)))] at hQ; exact hQ))
    · refine x_iconst (v := 1) d_Mo_renew_32 (by decide) ?_
      refine x_goto (tgt := 37) d_Mo_renew_33 (by decide) ?_
      refine x_putI d_Mo_renew_37 (w_Mo_m_177 _) rfl (by first | rfl | decide) (by first | rfl | decide) (by first | exact hM.1 | exact hM.s rfl | assumption) ?_
      refine x_iload_n d_Mo_renew_40 rfl rfl ?_
      exact x_ireturn d_Mo_renew_41 rfl (by first | rfl | decide) (by
  first
  | (rw [bI_n0 c20, Bool.true_or] at hQ; exact hQ)
  | (rw [bI_0 c20, Bool.false_or, decide_eq_false (fun z => nI_ge z (by omega) c29)] at hQ; exact hQ)
  | (rw [bI_0 c20, Bool.false_or, decide_eq_true (Nat.not_le.mp fun z => c29 (show nI (v + n) ≤ nI 100 from nI_le z (by omega)))] at hQ; exact hQ))
