/-! SuperDriverModel.<init> -/
def MoA (Γ : List Sh) (σ : Mem) (L : List (Nat × Nat × Nat)) (v : Int32) : Prop := Γ.length = 392 + L.length ∧ Γ[391]? = some (0, 11) ∧ (∀ i e, L[i]? = some e → Γ[392 + i]? = some (e.2.1, e.2.2) ∧ σ.2.1 391 e.1 = some (392 + i)) ∧ (∀ a j, 391 < a → a < Γ.length → σ.1 a j = 0) ∧ (∀ j, j ≠ 43 → σ.1 391 j = 0) ∧ σ.1 391 43 = v
theorem x_mo_new {G : Ctx} {M : Mth} {E : Ev} {bc bs pc idx N t j : Nat} {lv : List (Option Value)} {ll : List (Nat × Int64)} {st : List Value} {Γ : List Sh} {σ : Mem} {L : List (Nat × Nat × Nat)} {v : Int32} {atype : ArrayType} {n : Int32} (hA : MoA Γ σ L v) (hj : L.all (fun e => e.1 != j) = true) (hd1 : decode (mcd M) pc = .ok (.newarray atype, 2)) (hty : newarray.typeOf atype = ctyp t) (ht : 1 ≤ t ∧ t < 4) (hg : gd (.arrayClass (newarray.typeOf atype))) (hn : ¬ n < 0) (hN : n.toNatClampNeg = N) (hb : N * componentBytes (newarray.typeOf atype) ≤ 536870912) (hE : EvOK E) (hd2 : decode (mcd M) (pc + 2) = .ok (.putfield idx, 3)) (hF : FW (my M).cls (my M).name idx 11 j) (hR : isR (tyOf 11 j) = true)
    (kk : ∀ Γ' σ', Nw Γ σ (Is 391) 1 Γ' σ' → MoA Γ' σ' (L ++ [(j, t, N)]) v → Wq G M E bc bs (pc + 2 + 3) lv ll st Γ' σ') : Wq G M E (bc + 1) (bs + N) pc lv ll (.int n :: rf G 391 :: st) Γ σ := by
  obtain ⟨h1, h2, h3, h4, h5, h6⟩ := hA
  refine x_newaK (k := 392 + L.length) h1 hd1 hty ht hg hn hN hb hE (fun Γ1 σ1 w a z => ?_)
  refine x_putR hd2 hF hR (w.sh h2) ?_
  have hl := w.len h1
  refine kk Γ1 _ (w.any.tr Nw.wR) ⟨by rw [hl, List.length_append]; rfl, w.sh h2, fun i e he => ?_, fun b i hb hb2 => ?_, fun i hi => w.i (by omega) no0 (h5 i hi), w.i (by omega) no0 h6⟩
  · rcases Nat.lt_or_ge i L.length with hi | hi
    · rw [List.getElem?_append_left hi] at he
      have hne : e.1 ≠ j := by
        have := List.all_eq_true.mp hj e (List.mem_of_getElem? he)
        simpa using this
      exact ⟨w.sh (h3 i e he).1, by rw [wR_j hne]; exact w.r (by omega) no0 (h3 i e he).2⟩
    · have hil : i < (L ++ [(j, t, N)]).length := by
        rcases Nat.lt_or_ge i (L ++ [(j, t, N)]).length with y | y
        · exact y
        · rw [List.getElem?_eq_none y] at he; cases he
      rw [List.length_append] at hil
      have hil : i < L.length + 1 := hil
      have e0 : i = L.length := by omega
      subst e0
      rw [List.getElem?_append_right (Nat.le_refl _), Nat.sub_self] at he
      have e1 : e = (j, t, N) := (Option.some.inj he).symm
      subst e1
      exact ⟨a, wR_s⟩
  · rcases Nat.lt_or_ge b Γ.length with y | y
    · exact w.i y no0 (h4 b i hb y)
    · have : b = 392 + L.length := by omega
      rw [this]
      exact z.1 i
def LA : List (Nat × Nat × Nat) := [(2, 1, 24), (3, 1, 8), (4, 2, 8), (5, 1, 1344), (6, 1, 56), (8, 1, 24), (9, 1, 192), (10, 1, 8), (15, 1, 48), (16, 1, 48), (17, 1, 1920), (18, 1, 48), (19, 1, 48), (20, 1, 48), (21, 1, 48), (22, 1, 48), (23, 1, 48), (24, 1, 48), (25, 2, 48), (26, 1, 1920), (27, 1, 48), (28, 1, 4800), (29, 1, 48), (31, 1, 20400), (32, 1, 20400), (33, 1, 100), (34, 1, 100), (35, 1, 100), (36, 1, 100), (37, 2, 1600), (39, 1, 40), (41, 1, 40), (42, 1, 40), (46, 1, 200)]
theorem MoA.S {Γ : List Sh} {σ : Mem} (h : MoA Γ σ LA (-1)) : MoS Γ σ := by
  refine ⟨h.2.1, fun k e he => ?_, fun j k he => ?_⟩
  · unfold moSh at he
    split at he
    · cases he; exact (h.2.2.1 0 _ rfl).1
    · cases he; exact (h.2.2.1 1 _ rfl).1
    · cases he; exact (h.2.2.1 2 _ rfl).1
    · cases he; exact (h.2.2.1 3 _ rfl).1
    · cases he; exact (h.2.2.1 4 _ rfl).1
    · cases he; exact (h.2.2.1 5 _ rfl).1
    · cases he; exact (h.2.2.1 6 _ rfl).1
    · cases he; exact (h.2.2.1 7 _ rfl).1
    · cases he; exact (h.2.2.1 8 _ rfl).1
    · cases he; exact (h.2.2.1 9 _ rfl).1
    · cases he; exact (h.2.2.1 10 _ rfl).1
    · cases he; exact (h.2.2.1 11 _ rfl).1
    · cases he; exact (h.2.2.1 12 _ rfl).1
    · cases he; exact (h.2.2.1 13 _ rfl).1
    · cases he; exact (h.2.2.1 14 _ rfl).1
    · cases he; exact (h.2.2.1 15 _ rfl).1
    · cases he; exact (h.2.2.1 16 _ rfl).1
    · cases he; exact (h.2.2.1 17 _ rfl).1
    · cases he; exact (h.2.2.1 18 _ rfl).1
    · cases he; exact (h.2.2.1 19 _ rfl).1
    · cases he; exact (h.2.2.1 20 _ rfl).1
    · cases he; exact (h.2.2.1 21 _ rfl).1
    · cases he; exact (h.2.2.1 22 _ rfl).1
    · cases he; exact (h.2.2.1 23 _ rfl).1
    · cases he; exact (h.2.2.1 24 _ rfl).1
    · cases he; exact (h.2.2.1 25 _ rfl).1
    · cases he; exact (h.2.2.1 26 _ rfl).1
    · cases he; exact (h.2.2.1 27 _ rfl).1
    · cases he; exact (h.2.2.1 28 _ rfl).1
    · cases he; exact (h.2.2.1 29 _ rfl).1
    · cases he; exact (h.2.2.1 30 _ rfl).1
    · cases he; exact (h.2.2.1 31 _ rfl).1
    · cases he; exact (h.2.2.1 32 _ rfl).1
    · cases he; exact (h.2.2.1 33 _ rfl).1
    · cases he
  · unfold moRf at he
    split at he
    · cases he; exact (h.2.2.1 0 _ rfl).2
    · cases he; exact (h.2.2.1 1 _ rfl).2
    · cases he; exact (h.2.2.1 2 _ rfl).2
    · cases he; exact (h.2.2.1 3 _ rfl).2
    · cases he; exact (h.2.2.1 4 _ rfl).2
    · cases he; exact (h.2.2.1 5 _ rfl).2
    · cases he; exact (h.2.2.1 6 _ rfl).2
    · cases he; exact (h.2.2.1 7 _ rfl).2
    · cases he; exact (h.2.2.1 8 _ rfl).2
    · cases he; exact (h.2.2.1 9 _ rfl).2
    · cases he; exact (h.2.2.1 10 _ rfl).2
    · cases he; exact (h.2.2.1 11 _ rfl).2
    · cases he; exact (h.2.2.1 12 _ rfl).2
    · cases he; exact (h.2.2.1 13 _ rfl).2
    · cases he; exact (h.2.2.1 14 _ rfl).2
    · cases he; exact (h.2.2.1 15 _ rfl).2
    · cases he; exact (h.2.2.1 16 _ rfl).2
    · cases he; exact (h.2.2.1 17 _ rfl).2
    · cases he; exact (h.2.2.1 18 _ rfl).2
    · cases he; exact (h.2.2.1 19 _ rfl).2
    · cases he; exact (h.2.2.1 20 _ rfl).2
    · cases he; exact (h.2.2.1 21 _ rfl).2
    · cases he; exact (h.2.2.1 22 _ rfl).2
    · cases he; exact (h.2.2.1 23 _ rfl).2
    · cases he; exact (h.2.2.1 24 _ rfl).2
    · cases he; exact (h.2.2.1 25 _ rfl).2
    · cases he; exact (h.2.2.1 26 _ rfl).2
    · cases he; exact (h.2.2.1 27 _ rfl).2
    · cases he; exact (h.2.2.1 28 _ rfl).2
    · cases he; exact (h.2.2.1 29 _ rfl).2
    · cases he; exact (h.2.2.1 30 _ rfl).2
    · cases he; exact (h.2.2.1 31 _ rfl).2
    · cases he; exact (h.2.2.1 32 _ rfl).2
    · cases he; exact (h.2.2.1 33 _ rfl).2
    · cases he
theorem SW_0 : SW pt0 (fun _ => false) := by
  refine ⟨fun i hi => ?_, fun i hi => ?_, fun c hc => ?_, fun f hf => ⟨0, by omega, ?_⟩, ?_, fun i _ h => by cases h⟩
  · unfold pt0
    split
    · next h =>
      obtain ⟨c, rfl⟩ : ∃ c, i = 100 + c := ⟨i - 100, by omega⟩
      rw [Nat.add_sub_cancel_left]
      match c, (show c < 6 by omega) with
      | 0, _ => exact ⟨0, by omega, rfl⟩
      | 1, _ => exact ⟨1, by omega, rfl⟩
      | 2, _ => exact ⟨2, by omega, rfl⟩
      | 3, _ => exact ⟨0, by omega, rfl⟩
      | 4, _ => exact ⟨1, by omega, rfl⟩
      | 5, _ => exact ⟨2, by omega, rfl⟩
    · exact ⟨0, by omega, nI_0.symm⟩
  · unfold pt0; rw [if_neg (by omega)]
  · unfold pt0; rw [if_pos ⟨by omega, by omega⟩, Nat.add_sub_cancel_left]
  · unfold pt0; rw [if_neg (by omega)]; exact nI_0.symm
  · unfold pt0; rw [if_neg (by omega)]
theorem csW_0 : csW X0 := ⟨⟨fun s hs => (by cases hs), by decide⟩, SW_0, fun f c hf hc hne => absurd rfl hne, ⟨by decide, fun z => absurd rfl z⟩, fun v hv => ⟨by show 0 ≤ 24; omega, fun z => absurd rfl z⟩, fun z => absurd (show (-1 : Int32) = 0 from z) (by decide)⟩
theorem MoA.J {Γ : List Sh} {σ : Mem} (h : MoA Γ σ LA (-1)) : MJ Γ σ X0 := by
  have hl : Γ.length = 426 := h.1
  have z : ∀ a j, 391 < a → a < 426 → σ.1 a j = 0 := fun a j h1 h2 => h.2.2.2.1 a j h1 (by omega)
  have hp : ∀ f, f < 8 → pt0 (200 + f) = 0 := fun f hf => by unfold pt0; rw [if_neg (by omega)]
  refine ⟨h.S, ⟨⟨by rw [h.2.2.2.2.1 1 (by decide)]; exact nI_0.symm, seg.nil⟩, fun f hf => ⟨?_, fun y => absurd (hp f hf) y⟩, fun f c hf hc => ?_, ⟨by rw [h.2.2.2.2.1 7 (by decide)]; exact nI_0.symm, seg.nil⟩, fun v hv => ⟨by rw [z 399 v (by decide) (by decide)]; exact nI_0.symm, seg.nil⟩, h.2.2.2.2.2, by rw [h.2.2.2.2.1 44 (by decide)]; exact nI_0.symm, fun y => absurd (show (-1 : Int32) = 0 from y) (by decide)⟩, isMT.no (h.2.2.2.2.1 11 (by decide)) rfl, csW_0⟩
  · rw [z 393 f (by decide) (by decide)]
    exact (hp f hf).symm
  · have e : mb X0 f c = [] := by
      unfold mb
      exact if_pos (hp f hf)
    rw [e]
    exact ⟨by rw [z 396 _ (by decide) (by decide)]; exact nI_0.symm, seg.nil⟩
set_option maxRecDepth 10000 in
set_option maxHeartbeats 1000000 in
theorem c_Mo_init {G : Ctx} {d : Nat} {Γ : List Sh} {σ : Mem} {Q : Option Value → List Sh → Mem → Prop} (hT : Γ[391]? = some (0, 11)) (hL : Γ.length = 392) (hZ : nil0 σ 391) (hQ : ∀ Γ' σ', Nw Γ σ (Is 391) 34 Γ' σ' → MJ Γ' σ' X0 → Q none Γ' σ') : Ct G M_Mo_init (d + 1) 34 54000 [rf G 391] Γ σ Q := by
  refine Ct.of (lv := [some (rf G 391)]) (ll := []) rfl rfl (EN.cat (n := 0) ⟨rfl, trivial⟩ (Nat.le_of_ble_eq_true rfl)) ?_
  have W : Nw Γ σ (Is 391) 0 Γ σ := Nw.rf
  have hA : MoA Γ σ [] 0 := ⟨hL, hT, fun i e he => (by simp at he), fun a j h1 h2 => absurd h2 (by omega), fun j _ => hZ.1 j, hZ.1 43⟩
  first | refine x_aload_n d_Mo_init_0 rfl rfl ?_ | refine x_aloadN_n d_Mo_init_0 rfl rfl ?_ | refine x_aloadE_n d_Mo_init_0 rfl rfl ?_ | refine x_aloadO_n d_Mo_init_0 rfl rfl ?_
  refine x_objInit d_Mo_init_1 l_Mo_1 v_objInit k_objInit RoomL.m (Nat.le_of_ble_eq_true rfl) ?_
  first | refine x_aload_n d_Mo_init_4 rfl rfl ?_ | refine x_aloadN_n d_Mo_init_4 rfl rfl ?_ | refine x_aloadE_n d_Mo_init_4 rfl rfl ?_ | refine x_aloadO_n d_Mo_init_4 rfl rfl ?_
  refine x_bipush (v := 24) d_Mo_init_5 (by decide) ?_
  refine Wq.bud (bc := 33 + 1) (bs := 53976 + 24) (by omega) (by omega) ?_
  refine x_mo_new (bc := 33) (bs := 53976) (j := 2) (t := 1) (N := 24) hA (by decide) d_Mo_init_7 rfl (by decide) ac_int (by decide) (by decide) (by decide) EvOK.m d_Mo_init_9 w_Mo_init_7 rfl (fun Γ1 σ1 w0 hA => ?_)
  have hT := hA.2.1
  have W := W.tr w0
  first | refine x_aload_n d_Mo_init_12 rfl rfl ?_ | refine x_aloadN_n d_Mo_init_12 rfl rfl ?_ | refine x_aloadE_n d_Mo_init_12 rfl rfl ?_ | refine x_aloadO_n d_Mo_init_12 rfl rfl ?_
  refine x_bipush (v := 8) d_Mo_init_13 (by decide) ?_
  refine Wq.bud (bc := 32 + 1) (bs := 53968 + 8) (by omega) (by omega) ?_
  refine x_mo_new (bc := 32) (bs := 53968) (j := 3) (t := 1) (N := 8) hA (by decide) d_Mo_init_15 rfl (by decide) ac_int (by decide) (by decide) (by decide) EvOK.m d_Mo_init_17 w_Mo_init_13 rfl (fun Γ2 σ2 w1 hA => ?_)
  have hT := hA.2.1
  have W := W.tr w1
  first | refine x_aload_n d_Mo_init_20 rfl rfl ?_ | refine x_aloadN_n d_Mo_init_20 rfl rfl ?_ | refine x_aloadE_n d_Mo_init_20 rfl rfl ?_ | refine x_aloadO_n d_Mo_init_20 rfl rfl ?_
  refine x_bipush (v := 8) d_Mo_init_21 (by decide) ?_
  refine Wq.bud (bc := 31 + 1) (bs := 53960 + 8) (by omega) (by omega) ?_
  refine x_mo_new (bc := 31) (bs := 53960) (j := 4) (t := 2) (N := 8) hA (by decide) d_Mo_init_23 rfl (by decide) ac_boolean (by decide) (by decide) (by decide) EvOK.m d_Mo_init_25 w_Mo_init_16 rfl (fun Γ3 σ3 w2 hA => ?_)
  have hT := hA.2.1
  have W := W.tr w2
  first | refine x_aload_n d_Mo_init_28 rfl rfl ?_ | refine x_aloadN_n d_Mo_init_28 rfl rfl ?_ | refine x_aloadE_n d_Mo_init_28 rfl rfl ?_ | refine x_aloadO_n d_Mo_init_28 rfl rfl ?_
  refine x_sipush (v := 1344) d_Mo_init_29 (by decide) ?_
  refine Wq.bud (bc := 30 + 1) (bs := 52616 + 1344) (by omega) (by omega) ?_
  refine x_mo_new (bc := 30) (bs := 52616) (j := 5) (t := 1) (N := 1344) hA (by decide) d_Mo_init_32 rfl (by decide) ac_int (by decide) (by decide) (by decide) EvOK.m d_Mo_init_34 w_Mo_init_20 rfl (fun Γ4 σ4 w3 hA => ?_)
  have hT := hA.2.1
  have W := W.tr w3
  first | refine x_aload_n d_Mo_init_37 rfl rfl ?_ | refine x_aloadN_n d_Mo_init_37 rfl rfl ?_ | refine x_aloadE_n d_Mo_init_37 rfl rfl ?_ | refine x_aloadO_n d_Mo_init_37 rfl rfl ?_
  refine x_bipush (v := 56) d_Mo_init_38 (by decide) ?_
  refine Wq.bud (bc := 29 + 1) (bs := 52560 + 56) (by omega) (by omega) ?_
  refine x_mo_new (bc := 29) (bs := 52560) (j := 6) (t := 1) (N := 56) hA (by decide) d_Mo_init_40 rfl (by decide) ac_int (by decide) (by decide) (by decide) EvOK.m d_Mo_init_42 w_Mo_init_23 rfl (fun Γ5 σ5 w4 hA => ?_)
  have hT := hA.2.1
  have W := W.tr w4
  first | refine x_aload_n d_Mo_init_45 rfl rfl ?_ | refine x_aloadN_n d_Mo_init_45 rfl rfl ?_ | refine x_aloadE_n d_Mo_init_45 rfl rfl ?_ | refine x_aloadO_n d_Mo_init_45 rfl rfl ?_
  refine x_bipush (v := 24) d_Mo_init_46 (by decide) ?_
  refine Wq.bud (bc := 28 + 1) (bs := 52536 + 24) (by omega) (by omega) ?_
  refine x_mo_new (bc := 28) (bs := 52536) (j := 8) (t := 1) (N := 24) hA (by decide) d_Mo_init_48 rfl (by decide) ac_int (by decide) (by decide) (by decide) EvOK.m d_Mo_init_50 w_Mo_init_26 rfl (fun Γ6 σ6 w5 hA => ?_)
  have hT := hA.2.1
  have W := W.tr w5
  first | refine x_aload_n d_Mo_init_53 rfl rfl ?_ | refine x_aloadN_n d_Mo_init_53 rfl rfl ?_ | refine x_aloadE_n d_Mo_init_53 rfl rfl ?_ | refine x_aloadO_n d_Mo_init_53 rfl rfl ?_
  refine x_sipush (v := 192) d_Mo_init_54 (by decide) ?_
  refine Wq.bud (bc := 27 + 1) (bs := 52344 + 192) (by omega) (by omega) ?_
  refine x_mo_new (bc := 27) (bs := 52344) (j := 9) (t := 1) (N := 192) hA (by decide) d_Mo_init_57 rfl (by decide) ac_int (by decide) (by decide) (by decide) EvOK.m d_Mo_init_59 w_Mo_init_29 rfl (fun Γ7 σ7 w6 hA => ?_)
  have hT := hA.2.1
  have W := W.tr w6
  first | refine x_aload_n d_Mo_init_62 rfl rfl ?_ | refine x_aloadN_n d_Mo_init_62 rfl rfl ?_ | refine x_aloadE_n d_Mo_init_62 rfl rfl ?_ | refine x_aloadO_n d_Mo_init_62 rfl rfl ?_
  refine x_bipush (v := 8) d_Mo_init_63 (by decide) ?_
  refine Wq.bud (bc := 26 + 1) (bs := 52336 + 8) (by omega) (by omega) ?_
  refine x_mo_new (bc := 26) (bs := 52336) (j := 10) (t := 1) (N := 8) hA (by decide) d_Mo_init_65 rfl (by decide) ac_int (by decide) (by decide) (by decide) EvOK.m d_Mo_init_67 w_Mo_init_32 rfl (fun Γ8 σ8 w7 hA => ?_)
  have hT := hA.2.1
  have W := W.tr w7
  first | refine x_aload_n d_Mo_init_70 rfl rfl ?_ | refine x_aloadN_n d_Mo_init_70 rfl rfl ?_ | refine x_aloadE_n d_Mo_init_70 rfl rfl ?_ | refine x_aloadO_n d_Mo_init_70 rfl rfl ?_
  refine x_bipush (v := 48) d_Mo_init_71 (by decide) ?_
  refine Wq.bud (bc := 25 + 1) (bs := 52288 + 48) (by omega) (by omega) ?_
  refine x_mo_new (bc := 25) (bs := 52288) (j := 15) (t := 1) (N := 48) hA (by decide) d_Mo_init_73 rfl (by decide) ac_int (by decide) (by decide) (by decide) EvOK.m d_Mo_init_75 w_Mo_init_35 rfl (fun Γ9 σ9 w8 hA => ?_)
  have hT := hA.2.1
  have W := W.tr w8
  first | refine x_aload_n d_Mo_init_78 rfl rfl ?_ | refine x_aloadN_n d_Mo_init_78 rfl rfl ?_ | refine x_aloadE_n d_Mo_init_78 rfl rfl ?_ | refine x_aloadO_n d_Mo_init_78 rfl rfl ?_
  refine x_bipush (v := 48) d_Mo_init_79 (by decide) ?_
  refine Wq.bud (bc := 24 + 1) (bs := 52240 + 48) (by omega) (by omega) ?_
  refine x_mo_new (bc := 24) (bs := 52240) (j := 16) (t := 1) (N := 48) hA (by decide) d_Mo_init_81 rfl (by decide) ac_int (by decide) (by decide) (by decide) EvOK.m d_Mo_init_83 w_Mo_init_38 rfl (fun Γ10 σ10 w9 hA => ?_)
  have hT := hA.2.1
  have W := W.tr w9
  first | refine x_aload_n d_Mo_init_86 rfl rfl ?_ | refine x_aloadN_n d_Mo_init_86 rfl rfl ?_ | refine x_aloadE_n d_Mo_init_86 rfl rfl ?_ | refine x_aloadO_n d_Mo_init_86 rfl rfl ?_
  refine x_sipush (v := 1920) d_Mo_init_87 (by decide) ?_
  refine Wq.bud (bc := 23 + 1) (bs := 50320 + 1920) (by omega) (by omega) ?_
  refine x_mo_new (bc := 23) (bs := 50320) (j := 17) (t := 1) (N := 1920) hA (by decide) d_Mo_init_90 rfl (by decide) ac_int (by decide) (by decide) (by decide) EvOK.m d_Mo_init_92 w_Mo_init_41 rfl (fun Γ11 σ11 w10 hA => ?_)
  have hT := hA.2.1
  have W := W.tr w10
  first | refine x_aload_n d_Mo_init_95 rfl rfl ?_ | refine x_aloadN_n d_Mo_init_95 rfl rfl ?_ | refine x_aloadE_n d_Mo_init_95 rfl rfl ?_ | refine x_aloadO_n d_Mo_init_95 rfl rfl ?_
  refine x_bipush (v := 48) d_Mo_init_96 (by decide) ?_
  refine Wq.bud (bc := 22 + 1) (bs := 50272 + 48) (by omega) (by omega) ?_
  refine x_mo_new (bc := 22) (bs := 50272) (j := 18) (t := 1) (N := 48) hA (by decide) d_Mo_init_98 rfl (by decide) ac_int (by decide) (by decide) (by decide) EvOK.m d_Mo_init_100 w_Mo_init_44 rfl (fun Γ12 σ12 w11 hA => ?_)
  have hT := hA.2.1
  have W := W.tr w11
  first | refine x_aload_n d_Mo_init_103 rfl rfl ?_ | refine x_aloadN_n d_Mo_init_103 rfl rfl ?_ | refine x_aloadE_n d_Mo_init_103 rfl rfl ?_ | refine x_aloadO_n d_Mo_init_103 rfl rfl ?_
  refine x_bipush (v := 48) d_Mo_init_104 (by decide) ?_
  refine Wq.bud (bc := 21 + 1) (bs := 50224 + 48) (by omega) (by omega) ?_
  refine x_mo_new (bc := 21) (bs := 50224) (j := 19) (t := 1) (N := 48) hA (by decide) d_Mo_init_106 rfl (by decide) ac_int (by decide) (by decide) (by decide) EvOK.m d_Mo_init_108 w_Mo_init_47 rfl (fun Γ13 σ13 w12 hA => ?_)
  have hT := hA.2.1
  have W := W.tr w12
  first | refine x_aload_n d_Mo_init_111 rfl rfl ?_ | refine x_aloadN_n d_Mo_init_111 rfl rfl ?_ | refine x_aloadE_n d_Mo_init_111 rfl rfl ?_ | refine x_aloadO_n d_Mo_init_111 rfl rfl ?_
  refine x_bipush (v := 48) d_Mo_init_112 (by decide) ?_
  refine Wq.bud (bc := 20 + 1) (bs := 50176 + 48) (by omega) (by omega) ?_
  refine x_mo_new (bc := 20) (bs := 50176) (j := 20) (t := 1) (N := 48) hA (by decide) d_Mo_init_114 rfl (by decide) ac_int (by decide) (by decide) (by decide) EvOK.m d_Mo_init_116 w_Mo_init_50 rfl (fun Γ14 σ14 w13 hA => ?_)
  have hT := hA.2.1
  have W := W.tr w13
  first | refine x_aload_n d_Mo_init_119 rfl rfl ?_ | refine x_aloadN_n d_Mo_init_119 rfl rfl ?_ | refine x_aloadE_n d_Mo_init_119 rfl rfl ?_ | refine x_aloadO_n d_Mo_init_119 rfl rfl ?_
  refine x_bipush (v := 48) d_Mo_init_120 (by decide) ?_
  refine Wq.bud (bc := 19 + 1) (bs := 50128 + 48) (by omega) (by omega) ?_
  refine x_mo_new (bc := 19) (bs := 50128) (j := 21) (t := 1) (N := 48) hA (by decide) d_Mo_init_122 rfl (by decide) ac_int (by decide) (by decide) (by decide) EvOK.m d_Mo_init_124 w_Mo_init_53 rfl (fun Γ15 σ15 w14 hA => ?_)
  have hT := hA.2.1
  have W := W.tr w14
  first | refine x_aload_n d_Mo_init_127 rfl rfl ?_ | refine x_aloadN_n d_Mo_init_127 rfl rfl ?_ | refine x_aloadE_n d_Mo_init_127 rfl rfl ?_ | refine x_aloadO_n d_Mo_init_127 rfl rfl ?_
  refine x_bipush (v := 48) d_Mo_init_128 (by decide) ?_
  refine Wq.bud (bc := 18 + 1) (bs := 50080 + 48) (by omega) (by omega) ?_
  refine x_mo_new (bc := 18) (bs := 50080) (j := 22) (t := 1) (N := 48) hA (by decide) d_Mo_init_130 rfl (by decide) ac_int (by decide) (by decide) (by decide) EvOK.m d_Mo_init_132 w_Mo_init_56 rfl (fun Γ16 σ16 w15 hA => ?_)
  have hT := hA.2.1
  have W := W.tr w15
  first | refine x_aload_n d_Mo_init_135 rfl rfl ?_ | refine x_aloadN_n d_Mo_init_135 rfl rfl ?_ | refine x_aloadE_n d_Mo_init_135 rfl rfl ?_ | refine x_aloadO_n d_Mo_init_135 rfl rfl ?_
  refine x_bipush (v := 48) d_Mo_init_136 (by decide) ?_
  refine Wq.bud (bc := 17 + 1) (bs := 50032 + 48) (by omega) (by omega) ?_
  refine x_mo_new (bc := 17) (bs := 50032) (j := 23) (t := 1) (N := 48) hA (by decide) d_Mo_init_138 rfl (by decide) ac_int (by decide) (by decide) (by decide) EvOK.m d_Mo_init_140 w_Mo_init_59 rfl (fun Γ17 σ17 w16 hA => ?_)
  have hT := hA.2.1
  have W := W.tr w16
  first | refine x_aload_n d_Mo_init_143 rfl rfl ?_ | refine x_aloadN_n d_Mo_init_143 rfl rfl ?_ | refine x_aloadE_n d_Mo_init_143 rfl rfl ?_ | refine x_aloadO_n d_Mo_init_143 rfl rfl ?_
  refine x_bipush (v := 48) d_Mo_init_144 (by decide) ?_
  refine Wq.bud (bc := 16 + 1) (bs := 49984 + 48) (by omega) (by omega) ?_
  refine x_mo_new (bc := 16) (bs := 49984) (j := 24) (t := 1) (N := 48) hA (by decide) d_Mo_init_146 rfl (by decide) ac_int (by decide) (by decide) (by decide) EvOK.m d_Mo_init_148 w_Mo_init_62 rfl (fun Γ18 σ18 w17 hA => ?_)
  have hT := hA.2.1
  have W := W.tr w17
  first | refine x_aload_n d_Mo_init_151 rfl rfl ?_ | refine x_aloadN_n d_Mo_init_151 rfl rfl ?_ | refine x_aloadE_n d_Mo_init_151 rfl rfl ?_ | refine x_aloadO_n d_Mo_init_151 rfl rfl ?_
  refine x_bipush (v := 48) d_Mo_init_152 (by decide) ?_
  refine Wq.bud (bc := 15 + 1) (bs := 49936 + 48) (by omega) (by omega) ?_
  refine x_mo_new (bc := 15) (bs := 49936) (j := 25) (t := 2) (N := 48) hA (by decide) d_Mo_init_154 rfl (by decide) ac_boolean (by decide) (by decide) (by decide) EvOK.m d_Mo_init_156 w_Mo_init_65 rfl (fun Γ19 σ19 w18 hA => ?_)
  have hT := hA.2.1
  have W := W.tr w18
  first | refine x_aload_n d_Mo_init_159 rfl rfl ?_ | refine x_aloadN_n d_Mo_init_159 rfl rfl ?_ | refine x_aloadE_n d_Mo_init_159 rfl rfl ?_ | refine x_aloadO_n d_Mo_init_159 rfl rfl ?_
  refine x_sipush (v := 1920) d_Mo_init_160 (by decide) ?_
  refine Wq.bud (bc := 14 + 1) (bs := 48016 + 1920) (by omega) (by omega) ?_
  refine x_mo_new (bc := 14) (bs := 48016) (j := 26) (t := 1) (N := 1920) hA (by decide) d_Mo_init_163 rfl (by decide) ac_int (by decide) (by decide) (by decide) EvOK.m d_Mo_init_165 w_Mo_init_68 rfl (fun Γ20 σ20 w19 hA => ?_)
  have hT := hA.2.1
  have W := W.tr w19
  first | refine x_aload_n d_Mo_init_168 rfl rfl ?_ | refine x_aloadN_n d_Mo_init_168 rfl rfl ?_ | refine x_aloadE_n d_Mo_init_168 rfl rfl ?_ | refine x_aloadO_n d_Mo_init_168 rfl rfl ?_
  refine x_bipush (v := 48) d_Mo_init_169 (by decide) ?_
  refine Wq.bud (bc := 13 + 1) (bs := 47968 + 48) (by omega) (by omega) ?_
  refine x_mo_new (bc := 13) (bs := 47968) (j := 27) (t := 1) (N := 48) hA (by decide) d_Mo_init_171 rfl (by decide) ac_int (by decide) (by decide) (by decide) EvOK.m d_Mo_init_173 w_Mo_init_71 rfl (fun Γ21 σ21 w20 hA => ?_)
  have hT := hA.2.1
  have W := W.tr w20
  first | refine x_aload_n d_Mo_init_176 rfl rfl ?_ | refine x_aloadN_n d_Mo_init_176 rfl rfl ?_ | refine x_aloadE_n d_Mo_init_176 rfl rfl ?_ | refine x_aloadO_n d_Mo_init_176 rfl rfl ?_
  refine x_sipush (v := 4800) d_Mo_init_177 (by decide) ?_
  refine Wq.bud (bc := 12 + 1) (bs := 43168 + 4800) (by omega) (by omega) ?_
  refine x_mo_new (bc := 12) (bs := 43168) (j := 28) (t := 1) (N := 4800) hA (by decide) d_Mo_init_180 rfl (by decide) ac_int (by decide) (by decide) (by decide) EvOK.m d_Mo_init_182 w_Mo_init_74 rfl (fun Γ22 σ22 w21 hA => ?_)
  have hT := hA.2.1
  have W := W.tr w21
  first | refine x_aload_n d_Mo_init_185 rfl rfl ?_ | refine x_aloadN_n d_Mo_init_185 rfl rfl ?_ | refine x_aloadE_n d_Mo_init_185 rfl rfl ?_ | refine x_aloadO_n d_Mo_init_185 rfl rfl ?_
  refine x_bipush (v := 48) d_Mo_init_186 (by decide) ?_
  refine Wq.bud (bc := 11 + 1) (bs := 43120 + 48) (by omega) (by omega) ?_
  refine x_mo_new (bc := 11) (bs := 43120) (j := 29) (t := 1) (N := 48) hA (by decide) d_Mo_init_188 rfl (by decide) ac_int (by decide) (by decide) (by decide) EvOK.m d_Mo_init_190 w_Mo_init_77 rfl (fun Γ23 σ23 w22 hA => ?_)
  have hT := hA.2.1
  have W := W.tr w22
  first | refine x_aload_n d_Mo_init_193 rfl rfl ?_ | refine x_aloadN_n d_Mo_init_193 rfl rfl ?_ | refine x_aloadE_n d_Mo_init_193 rfl rfl ?_ | refine x_aloadO_n d_Mo_init_193 rfl rfl ?_
  refine x_sipush (v := 20400) d_Mo_init_194 (by decide) ?_
  refine Wq.bud (bc := 10 + 1) (bs := 22720 + 20400) (by omega) (by omega) ?_
  refine x_mo_new (bc := 10) (bs := 22720) (j := 31) (t := 1) (N := 20400) hA (by decide) d_Mo_init_197 rfl (by decide) ac_int (by decide) (by decide) (by decide) EvOK.m d_Mo_init_199 w_Mo_init_80 rfl (fun Γ24 σ24 w23 hA => ?_)
  have hT := hA.2.1
  have W := W.tr w23
  first | refine x_aload_n d_Mo_init_202 rfl rfl ?_ | refine x_aloadN_n d_Mo_init_202 rfl rfl ?_ | refine x_aloadE_n d_Mo_init_202 rfl rfl ?_ | refine x_aloadO_n d_Mo_init_202 rfl rfl ?_
  refine x_sipush (v := 20400) d_Mo_init_203 (by decide) ?_
  refine Wq.bud (bc := 9 + 1) (bs := 2320 + 20400) (by omega) (by omega) ?_
  refine x_mo_new (bc := 9) (bs := 2320) (j := 32) (t := 1) (N := 20400) hA (by decide) d_Mo_init_206 rfl (by decide) ac_int (by decide) (by decide) (by decide) EvOK.m d_Mo_init_208 w_Mo_init_83 rfl (fun Γ25 σ25 w24 hA => ?_)
  have hT := hA.2.1
  have W := W.tr w24
  first | refine x_aload_n d_Mo_init_211 rfl rfl ?_ | refine x_aloadN_n d_Mo_init_211 rfl rfl ?_ | refine x_aloadE_n d_Mo_init_211 rfl rfl ?_ | refine x_aloadO_n d_Mo_init_211 rfl rfl ?_
  refine x_bipush (v := 100) d_Mo_init_212 (by decide) ?_
  refine Wq.bud (bc := 8 + 1) (bs := 2220 + 100) (by omega) (by omega) ?_
  refine x_mo_new (bc := 8) (bs := 2220) (j := 33) (t := 1) (N := 100) hA (by decide) d_Mo_init_214 rfl (by decide) ac_int (by decide) (by decide) (by decide) EvOK.m d_Mo_init_216 w_Mo_init_86 rfl (fun Γ26 σ26 w25 hA => ?_)
  have hT := hA.2.1
  have W := W.tr w25
  first | refine x_aload_n d_Mo_init_219 rfl rfl ?_ | refine x_aloadN_n d_Mo_init_219 rfl rfl ?_ | refine x_aloadE_n d_Mo_init_219 rfl rfl ?_ | refine x_aloadO_n d_Mo_init_219 rfl rfl ?_
  refine x_bipush (v := 100) d_Mo_init_220 (by decide) ?_
  refine Wq.bud (bc := 7 + 1) (bs := 2120 + 100) (by omega) (by omega) ?_
  refine x_mo_new (bc := 7) (bs := 2120) (j := 34) (t := 1) (N := 100) hA (by decide) d_Mo_init_222 rfl (by decide) ac_int (by decide) (by decide) (by decide) EvOK.m d_Mo_init_224 w_Mo_init_89 rfl (fun Γ27 σ27 w26 hA => ?_)
  have hT := hA.2.1
  have W := W.tr w26
  first | refine x_aload_n d_Mo_init_227 rfl rfl ?_ | refine x_aloadN_n d_Mo_init_227 rfl rfl ?_ | refine x_aloadE_n d_Mo_init_227 rfl rfl ?_ | refine x_aloadO_n d_Mo_init_227 rfl rfl ?_
  refine x_bipush (v := 100) d_Mo_init_228 (by decide) ?_
  refine Wq.bud (bc := 6 + 1) (bs := 2020 + 100) (by omega) (by omega) ?_
  refine x_mo_new (bc := 6) (bs := 2020) (j := 35) (t := 1) (N := 100) hA (by decide) d_Mo_init_230 rfl (by decide) ac_int (by decide) (by decide) (by decide) EvOK.m d_Mo_init_232 w_Mo_init_92 rfl (fun Γ28 σ28 w27 hA => ?_)
  have hT := hA.2.1
  have W := W.tr w27
  first | refine x_aload_n d_Mo_init_235 rfl rfl ?_ | refine x_aloadN_n d_Mo_init_235 rfl rfl ?_ | refine x_aloadE_n d_Mo_init_235 rfl rfl ?_ | refine x_aloadO_n d_Mo_init_235 rfl rfl ?_
  refine x_bipush (v := 100) d_Mo_init_236 (by decide) ?_
  refine Wq.bud (bc := 5 + 1) (bs := 1920 + 100) (by omega) (by omega) ?_
  refine x_mo_new (bc := 5) (bs := 1920) (j := 36) (t := 1) (N := 100) hA (by decide) d_Mo_init_238 rfl (by decide) ac_int (by decide) (by decide) (by decide) EvOK.m d_Mo_init_240 w_Mo_init_95 rfl (fun Γ29 σ29 w28 hA => ?_)
  have hT := hA.2.1
  have W := W.tr w28
  first | refine x_aload_n d_Mo_init_243 rfl rfl ?_ | refine x_aloadN_n d_Mo_init_243 rfl rfl ?_ | refine x_aloadE_n d_Mo_init_243 rfl rfl ?_ | refine x_aloadO_n d_Mo_init_243 rfl rfl ?_
  refine x_sipush (v := 1600) d_Mo_init_244 (by decide) ?_
  refine Wq.bud (bc := 4 + 1) (bs := 320 + 1600) (by omega) (by omega) ?_
  refine x_mo_new (bc := 4) (bs := 320) (j := 37) (t := 2) (N := 1600) hA (by decide) d_Mo_init_247 rfl (by decide) ac_boolean (by decide) (by decide) (by decide) EvOK.m d_Mo_init_249 w_Mo_init_98 rfl (fun Γ30 σ30 w29 hA => ?_)
  have hT := hA.2.1
  have W := W.tr w29
  first | refine x_aload_n d_Mo_init_252 rfl rfl ?_ | refine x_aloadN_n d_Mo_init_252 rfl rfl ?_ | refine x_aloadE_n d_Mo_init_252 rfl rfl ?_ | refine x_aloadO_n d_Mo_init_252 rfl rfl ?_
  refine x_bipush (v := 40) d_Mo_init_253 (by decide) ?_
  refine Wq.bud (bc := 3 + 1) (bs := 280 + 40) (by omega) (by omega) ?_
  refine x_mo_new (bc := 3) (bs := 280) (j := 39) (t := 1) (N := 40) hA (by decide) d_Mo_init_255 rfl (by decide) ac_int (by decide) (by decide) (by decide) EvOK.m d_Mo_init_257 w_Mo_init_101 rfl (fun Γ31 σ31 w30 hA => ?_)
  have hT := hA.2.1
  have W := W.tr w30
  first | refine x_aload_n d_Mo_init_260 rfl rfl ?_ | refine x_aloadN_n d_Mo_init_260 rfl rfl ?_ | refine x_aloadE_n d_Mo_init_260 rfl rfl ?_ | refine x_aloadO_n d_Mo_init_260 rfl rfl ?_
  refine x_bipush (v := 40) d_Mo_init_261 (by decide) ?_
  refine Wq.bud (bc := 2 + 1) (bs := 240 + 40) (by omega) (by omega) ?_
  refine x_mo_new (bc := 2) (bs := 240) (j := 41) (t := 1) (N := 40) hA (by decide) d_Mo_init_263 rfl (by decide) ac_int (by decide) (by decide) (by decide) EvOK.m d_Mo_init_265 w_Mo_init_104 rfl (fun Γ32 σ32 w31 hA => ?_)
  have hT := hA.2.1
  have W := W.tr w31
  first | refine x_aload_n d_Mo_init_268 rfl rfl ?_ | refine x_aloadN_n d_Mo_init_268 rfl rfl ?_ | refine x_aloadE_n d_Mo_init_268 rfl rfl ?_ | refine x_aloadO_n d_Mo_init_268 rfl rfl ?_
  refine x_bipush (v := 40) d_Mo_init_269 (by decide) ?_
  refine Wq.bud (bc := 1 + 1) (bs := 200 + 40) (by omega) (by omega) ?_
  refine x_mo_new (bc := 1) (bs := 200) (j := 42) (t := 1) (N := 40) hA (by decide) d_Mo_init_271 rfl (by decide) ac_int (by decide) (by decide) (by decide) EvOK.m d_Mo_init_273 w_Mo_init_107 rfl (fun Γ33 σ33 w32 hA => ?_)
  have hT := hA.2.1
  have W := W.tr w32
  first | refine x_aload_n d_Mo_init_276 rfl rfl ?_ | refine x_aloadN_n d_Mo_init_276 rfl rfl ?_ | refine x_aloadE_n d_Mo_init_276 rfl rfl ?_ | refine x_aloadO_n d_Mo_init_276 rfl rfl ?_
  refine x_iconst (v := -1) d_Mo_init_277 (by decide) ?_
  refine x_putI d_Mo_init_278 (w_Mo_init_110 _) rfl (by first | rfl | decide) (by first | rfl | decide) (by assumption) ?_
  have hA : MoA Γ33 (wI σ33 391 43 (-1)) [(2, 1, 24), (3, 1, 8), (4, 2, 8), (5, 1, 1344), (6, 1, 56), (8, 1, 24), (9, 1, 192), (10, 1, 8), (15, 1, 48), (16, 1, 48), (17, 1, 1920), (18, 1, 48), (19, 1, 48), (20, 1, 48), (21, 1, 48), (22, 1, 48), (23, 1, 48), (24, 1, 48), (25, 2, 48), (26, 1, 1920), (27, 1, 48), (28, 1, 4800), (29, 1, 48), (31, 1, 20400), (32, 1, 20400), (33, 1, 100), (34, 1, 100), (35, 1, 100), (36, 1, 100), (37, 2, 1600), (39, 1, 40), (41, 1, 40), (42, 1, 40)] (-1) := ⟨hA.1, hA.2.1, hA.2.2.1, fun a j h1 h2 => by rw [wI_o (by omega)]; exact hA.2.2.2.1 a j h1 h2, fun j hj => by rw [wI_j hj]; exact hA.2.2.2.2.1 j hj, wI_s⟩
  have W := W.tr (Nw.wI (j := 43) (v := -1))
  first | refine x_aload_n d_Mo_init_281 rfl rfl ?_ | refine x_aloadN_n d_Mo_init_281 rfl rfl ?_ | refine x_aloadE_n d_Mo_init_281 rfl rfl ?_ | refine x_aloadO_n d_Mo_init_281 rfl rfl ?_
  refine x_sipush (v := 200) d_Mo_init_282 (by decide) ?_
  refine Wq.bud (bc := 0 + 1) (bs := 0 + 200) (by omega) (by omega) ?_
  refine x_mo_new (bc := 0) (bs := 0) (j := 46) (t := 1) (N := 200) hA (by decide) d_Mo_init_285 rfl (by decide) ac_int (by decide) (by decide) (by decide) EvOK.m d_Mo_init_287 w_Mo_init_114 rfl (fun Γ34 σ34 w33 hA => ?_)
  have hT := hA.2.1
  have W := W.tr w33
  exact x_return d_Mo_init_290 rfl (hQ _ _ W (MoA.J hA))
