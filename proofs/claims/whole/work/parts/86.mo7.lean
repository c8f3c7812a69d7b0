/-! SuperDriverModel: body -/
theorem bO_c {c : Nat} (h : c < 6) : bO (nI (100 + c)) = pK (nI c) := by
  rw [pK_c h]
  match c, h with
  | 0, _ => decide
  | 1, _ => decide
  | 2, _ => decide
  | 3, _ => decide
  | 4, _ => decide
  | 5, _ => decide
theorem mb_bd {X : CS} {k c i : Nat} {l : List Int32} {tx : List Int32} {T : TS} (hk : k < 8) (hp : kP X (200 + k) ≠ 0) (hi : i = 6 * k + (if kC X (200 + k) = true then c else 0)) (hc : if kC X (200 + k) = true then c < 6 else c = 6) : ∀ f d, f < 8 → d < 7 → mb (tx, X.2.1, X.2.2.1, X.2.2.2.1, X.2.2.2.2.1, upN X.2.2.2.2.2.1 i l, T, X.2.2.2.2.2.2.2) f d = if f = k ∧ d = c then l else mb X f d := by
  intro f d hf hd
  have u : ∀ j, j ≠ i → upN X.2.2.2.2.2.1 i l j = kB X j := fun j hj => by unfold upN; rw [if_neg hj]; rfl
  have ui : upN X.2.2.2.2.2.1 i l i = l := by unfold upN; rw [if_pos rfl]
  unfold mb
  show (if kP X (200 + f) = 0 then [] else if kC X (200 + f) = true then (if d < 6 then upN X.2.2.2.2.2.1 i l (6 * f + d) else []) else (if d = 6 then upN X.2.2.2.2.2.1 i l (6 * f) else [])) = _
  by_cases e : f = k
  · subst e
    rw [if_neg hp, if_neg hp]
    cases hcs : kC X (200 + f) with
    | true =>
      rw [hcs] at hi hc
      rw [if_pos rfl] at hi hc
      rw [if_pos rfl, if_pos rfl]
      by_cases hd6 : d < 6
      · rw [if_pos hd6, if_pos hd6]
        by_cases ed : d = c
        · rw [if_pos ⟨rfl, ed⟩, ed, ← hi, ui]
        · rw [if_neg (fun z => ed z.2), u _ (by omega)]
      · rw [if_neg hd6, if_neg hd6, if_neg (fun z => by omega)]
    | false =>
      rw [hcs] at hi hc
      rw [if_neg (by decide)] at hi hc
      rw [if_neg (show ¬ false = true by decide), if_neg (show ¬ false = true by decide)]
      by_cases hd6 : d = 6
      · rw [if_pos hd6, if_pos ⟨rfl, by omega⟩, show 6 * f = i by omega, ui]
      · rw [if_neg hd6, if_neg hd6, if_neg (fun z => by omega)]
  · rw [if_neg (show ¬ (f = k ∧ d = c) from fun z => e z.1)]
    have hb : ∀ j, j < 6 → 6 * f + j ≠ i := fun j hj => by
      have hc' : (if kC X (200 + k) = true then c else 0) < 6 := by
        cases hcs : kC X (200 + k) with
        | true => rw [hcs, if_pos rfl] at hc; rw [if_pos rfl]; exact hc
        | false => rw [if_neg (by decide)]; omega
      omega
    by_cases z0 : kP X (200 + f) = 0
    · rw [if_pos z0, if_pos z0]
    · rw [if_neg z0, if_neg z0]
      by_cases z1 : kC X (200 + f) = true
      · rw [if_pos z1, if_pos z1]
        by_cases z2 : d < 6
        · rw [if_pos z2, if_pos z2, u _ (hb d z2)]
        · rw [if_neg z2, if_neg z2]
      · rw [if_neg z1, if_neg z1]
        by_cases z2 : d = 6
        · rw [if_pos z2, if_pos z2, u _ (by have := hb 0 (by omega); omega)]
        · rw [if_neg z2, if_neg z2]
set_option maxRecDepth 10000 in
set_option maxHeartbeats 1000000 in
theorem c_Mo_body_n {G : Ctx} {d : Nat} {Γ : List Sh} {σ : Mem} {Q : Option Value → List Sh → Mem → Prop} {X : CS} {f x : Int32} (hM : MoS Γ σ) (hX : isMC σ X) (hW : csW X) (hE1 : dcl (kP X) f = false → Q none Γ (wI σ 391 0 1)) (hE2 : dcl (kP X) f = true → mhv (kP X) (kC X) f x (kT X) = false → Q none Γ (wI σ 391 0 2)) (hQ : dcl (kP X) f = true → mhv (kP X) (kC X) f x (kT X) = true → ∀ σ', isMC σ' (csBd X f x) → σ'.1 391 11 = 0 → σ'.1 391 0 = 0 → FrM σ σ' → Q none Γ σ') (hN : dcl (kP X) f = false) : Ct G M_Mo_body (d + 3) 0 0 [rf G 391, .int f, .int x] Γ σ Q := by
  refine Ct.of (lv := [some (rf G 391), some (.int f), some (.int x), none, none, none]) (ll := []) rfl rfl (EN.cat (n := 3) ⟨rfl, rfl, rfl, trivial⟩ (Nat.le_of_ble_eq_true rfl)) ?_
  refine x_iload_n d_Mo_body_0 rfl rfl ?_
  refine x_if_lt (tgt := 19) d_Mo_body_1 (by decide) (fun c1 => ?_) (fun c1 => ?_)
  · refine x_iconst (v := 1) d_Mo_body_19 (by decide) ?_
    refine x_goto (tgt := 24) d_Mo_body_20 (by decide) ?_
    refine x_istore_n d_Mo_body_24 rfl rfl ?_
    refine x_iload_n d_Mo_body_25 rfl rfl ?_
    refine x_if_ne (tgt := 60) d_Mo_body_26 (by decide) (fun c26 => ?_) (fun c26 => ?_)
    · refine x_iconst (v := 0) d_Mo_body_60 (by decide) ?_
      refine x_istore d_Mo_body_61 rfl ?_
      first | refine x_aload_n d_Mo_body_63 rfl rfl ?_ | refine x_aloadN_n d_Mo_body_63 rfl rfl ?_ | refine x_aloadE_n d_Mo_body_63 rfl rfl ?_ | refine x_aloadO_n d_Mo_body_63 rfl rfl ?_
      refine x_iload_n d_Mo_body_64 rfl rfl ?_
      refine x_iload d_Mo_body_65 rfl ?_
      refine x_if_eq (tgt := 112) d_Mo_body_67 (by decide) (fun c67 => ?_) (fun c67 => ?_)
      · refine x_iconst (v := 1) d_Mo_body_112 (by decide) ?_
        refine x_goto (tgt := 117) d_Mo_body_113 (by decide) ?_
        refine x_callV2 d_Mo_body_117 k_Mo_throwing l_Mo_145 v_Mo_throwing rfl s_Mo_throwing (by first | exact hM.1 | exact hM.s rfl | assumption) RoomE.m (Nat.le_of_ble_eq_true rfl) (c_Mo_throwing (a := true) (b := true) hM ?_)
        refine x_if_eq (tgt := 124) d_Mo_body_120 (by decide) (fun c120 => ?_) (fun c120 => ?_)
        · exact absurd c120 (by decide)
        · exact x_return d_Mo_body_123 rfl (hE1 hN)
      · exact absurd rfl c67
    · exact absurd c26 (by decide)
  · refine x_iload_n d_Mo_body_4 rfl rfl ?_
    refine x_bipush (v := 7) d_Mo_body_5 (by decide) ?_
    refine x_icmp_gt (tgt := 19) d_Mo_body_7 (by decide) (fun c7 => ?_) (fun c7 => ?_)
    · refine x_iconst (v := 1) d_Mo_body_19 (by decide) ?_
      refine x_goto (tgt := 24) d_Mo_body_20 (by decide) ?_
      refine x_istore_n d_Mo_body_24 rfl rfl ?_
      refine x_iload_n d_Mo_body_25 rfl rfl ?_
      refine x_if_ne (tgt := 60) d_Mo_body_26 (by decide) (fun c26 => ?_) (fun c26 => ?_)
      · refine x_iconst (v := 0) d_Mo_body_60 (by decide) ?_
        refine x_istore d_Mo_body_61 rfl ?_
        first | refine x_aload_n d_Mo_body_63 rfl rfl ?_ | refine x_aloadN_n d_Mo_body_63 rfl rfl ?_ | refine x_aloadE_n d_Mo_body_63 rfl rfl ?_ | refine x_aloadO_n d_Mo_body_63 rfl rfl ?_
        refine x_iload_n d_Mo_body_64 rfl rfl ?_
        refine x_iload d_Mo_body_65 rfl ?_
        refine x_if_eq (tgt := 112) d_Mo_body_67 (by decide) (fun c67 => ?_) (fun c67 => ?_)
        · refine x_iconst (v := 1) d_Mo_body_112 (by decide) ?_
          refine x_goto (tgt := 117) d_Mo_body_113 (by decide) ?_
          refine x_callV2 d_Mo_body_117 k_Mo_throwing l_Mo_145 v_Mo_throwing rfl s_Mo_throwing (by first | exact hM.1 | exact hM.s rfl | assumption) RoomE.m (Nat.le_of_ble_eq_true rfl) (c_Mo_throwing (a := true) (b := true) hM ?_)
          refine x_if_eq (tgt := 124) d_Mo_body_120 (by decide) (fun c120 => ?_) (fun c120 => ?_)
          · exact absurd c120 (by decide)
          · exact x_return d_Mo_body_123 rfl (hE1 hN)
        · exact absurd rfl c67
      · exact absurd c26 (by decide)
    · obtain ⟨k, hk, rfl⟩ := nI_of c1
      have hk8 : k < 8 := Nat.not_le.mp fun z => c7 (gt7.mpr (show nI 8 ≤ nI k from nI_le z hk))
      first | refine x_aload_n d_Mo_body_10 rfl rfl ?_ | refine x_aloadN_n d_Mo_body_10 rfl rfl ?_ | refine x_aloadE_n d_Mo_body_10 rfl rfl ?_ | refine x_aloadO_n d_Mo_body_10 rfl rfl ?_
      refine x_getR d_Mo_body_11 f_Mo_13 rfl (by first | exact hM.1 | exact hM.s rfl | assumption) (hM.r rfl) ?_
      refine x_iload_n d_Mo_body_14 rfl rfl ?_
      refine x_iald d_Mo_body_15 (by first | exact hM.1 | exact hM.s rfl | assumption) (vp_in_nI hk8 (by decide)) ?_
      rw [nI_clamp (by omega), (hX.2.1 k hk8).1]
      refine x_if_ne (tgt := 23) d_Mo_body_16 (by decide) (fun c16 => ?_) (fun c16 => ?_)
      · exact absurd ((dcl_n hW.2.1 hk8).2.mpr hN) c16
      · refine x_iconst (v := 1) d_Mo_body_19 (by decide) ?_
        refine x_goto (tgt := 24) d_Mo_body_20 (by decide) ?_
        refine x_istore_n d_Mo_body_24 rfl rfl ?_
        refine x_iload_n d_Mo_body_25 rfl rfl ?_
        refine x_if_ne (tgt := 60) d_Mo_body_26 (by decide) (fun c26 => ?_) (fun c26 => ?_)
        · refine x_iconst (v := 0) d_Mo_body_60 (by decide) ?_
          refine x_istore d_Mo_body_61 rfl ?_
          first | refine x_aload_n d_Mo_body_63 rfl rfl ?_ | refine x_aloadN_n d_Mo_body_63 rfl rfl ?_ | refine x_aloadE_n d_Mo_body_63 rfl rfl ?_ | refine x_aloadO_n d_Mo_body_63 rfl rfl ?_
          refine x_iload_n d_Mo_body_64 rfl rfl ?_
          refine x_iload d_Mo_body_65 rfl ?_
          refine x_if_eq (tgt := 112) d_Mo_body_67 (by decide) (fun c67 => ?_) (fun c67 => ?_)
          · refine x_iconst (v := 1) d_Mo_body_112 (by decide) ?_
            refine x_goto (tgt := 117) d_Mo_body_113 (by decide) ?_
            refine x_callV2 d_Mo_body_117 k_Mo_throwing l_Mo_145 v_Mo_throwing rfl s_Mo_throwing (by first | exact hM.1 | exact hM.s rfl | assumption) RoomE.m (Nat.le_of_ble_eq_true rfl) (c_Mo_throwing (a := true) (b := true) hM ?_)
            refine x_if_eq (tgt := 124) d_Mo_body_120 (by decide) (fun c120 => ?_) (fun c120 => ?_)
            · exact absurd c120 (by decide)
            · exact x_return d_Mo_body_123 rfl (hE1 hN)
          · exact absurd rfl c67
        · exact absurd c26 (by decide)
theorem mb_len {X : CS} {g d : Nat} (h : BdW (kP X) (kC X) (kB X)) (hg : g < 8) : (mb X g d).length ≤ 24 := by
  have key : ∀ c, c < 6 → (kB X (6 * g + c)).length ≤ 24 := fun c hc => by
    by_cases z : kB X (6 * g + c) = []
    · rw [z]; exact Nat.zero_le _
    · exact (h g c hg hc z).2.1
  unfold mb
  split
  · exact Nat.zero_le _
  · split
    · split
      · next z => exact key d z
      · exact Nat.zero_le _
    · split
      · have := key 0 (by omega); rw [Nat.add_zero] at this; exact this
      · exact Nat.zero_le _
theorem mhv_x {pt : Nat → Int32} {cs : Nat → Bool} {k : Nat} {x : Int32} {zs : List Int32} (h : sgC cs (nI (200 + k)) = true) (e : (200 : Int32) + nI k = nI (200 + k)) : mhv pt cs (nI k) x zs = if x < 0 then false else if x < 6 then mhc pt zs (sgP pt (nI (200 + k)) + (pK x - 1)) else false := by
  unfold mhv
  rw [e, if_pos h]
theorem mhv_y {pt : Nat → Int32} {cs : Nat → Bool} {k : Nat} {x : Int32} {zs : List Int32} (h : sgC cs (nI (200 + k)) = false) (e : (200 : Int32) + nI k = nI (200 + k)) : mhv pt cs (nI k) x zs = if x = -1 then mhc pt zs (sgP pt (nI (200 + k))) else false := by
  unfold mhv
  rw [e, if_neg (by rw [h]; decide)]
theorem mhv_c {pt : Nat → Int32} {cs : Nat → Bool} {k : Nat} {x : Int32} {zs : List Int32} (h : sgC cs (nI (200 + k)) = true) (e : (200 : Int32) + nI k = nI (200 + k)) (hm : mhv pt cs (nI k) x zs = true) : ∃ c, c < 6 ∧ x = nI c := by
  rw [mhv_x h e] at hm
  by_cases h0 : x < 0
  · rw [if_pos h0] at hm; cases hm
  · rw [if_neg h0] at hm
    by_cases h6 : x < 6
    · obtain ⟨c, hc, rfl⟩ := nI_of h0
      exact ⟨c, (nI_ltI hc (by decide)).mp (show nI c < nI 6 from h6), rfl⟩
    · rw [if_neg h6] at hm; cases hm
theorem mhv_p {pt : Nat → Int32} {cs : Nat → Bool} {k : Nat} {x : Int32} {zs : List Int32} (h : sgC cs (nI (200 + k)) = false) (e : (200 : Int32) + nI k = nI (200 + k)) (hm : mhv pt cs (nI k) x zs = true) : x = -1 := by
  rw [mhv_y h e] at hm
  by_cases h0 : x = -1
  · exact h0
  · rw [if_neg h0] at hm; cases hm
set_option maxRecDepth 10000 in
set_option maxHeartbeats 1000000 in
theorem c_Mo_body_c {G : Ctx} {d : Nat} {Γ : List Sh} {σ : Mem} {Q : Option Value → List Sh → Mem → Prop} {X : CS} {f x : Int32} (hM : MoS Γ σ) (hX : isMC σ X) (hW : csW X) (hE1 : dcl (kP X) f = false → Q none Γ (wI σ 391 0 1)) (hE2 : dcl (kP X) f = true → mhv (kP X) (kC X) f x (kT X) = false → Q none Γ (wI σ 391 0 2)) (hQ : dcl (kP X) f = true → mhv (kP X) (kC X) f x (kT X) = true → ∀ σ', isMC σ' (csBd X f x) → σ'.1 391 11 = 0 → σ'.1 391 0 = 0 → FrM σ σ' → Q none Γ σ') (hN : dcl (kP X) f = true) (hcs0 : sgC (kC X) (200 + f) = true) : Ct G M_Mo_body (d + 3) 0 0 [rf G 391, .int f, .int x] Γ σ Q := by
  obtain ⟨k, hk8, rfl⟩ : ∃ k, k < 8 ∧ f = nI k := by
    obtain ⟨h1, h2⟩ := dcl_in hN
    obtain ⟨k, hk, rfl⟩ := nI_of h1
    exact ⟨k, Nat.not_le.mp fun z => h2 (show nI 8 ≤ nI k from nI_le z hk), rfl⟩
  have e200 : (200 : Int32) + nI k = nI (200 + k) := by rw [show (200 : Int32) = nI 200 from rfl, nI_add]
  rw [e200] at hcs0
  have hcs : kC X (200 + k) = true := by rw [← hcs0, sgC_n (by omega)]
  have hp0 : kP X (200 + k) ≠ 0 := fun z => by rw [(dcl_n hW.2.1 hk8).2.mp z] at hN; cases hN
  have hpp : ∀ f, f < 8 → σ.1 393 f = kP X (200 + f) := fun f hf => (hX.2.1 f hf).1
  have hpa := pAll_of hW.2.1 hpp hW.1.1 tA_k
  have hr394 : σ.1 394 k = bI true := by rw [(hX.2.1 k hk8).2 hp0, hcs]
  have j117 : ∀ (y z4 : Int32), y = bI (!mhv (kP X) (kC X) (nI k) x (kT X)) → Wq G M_Mo_body (Em G (d + 3) 0 0 Q) 0 0 117 [some (rf G 391), some (.int (nI k)), some (.int x), some (.int (bI false)), some (.int z4), none] [] [.int y, .int (bI false), rf G 391] Γ σ := by
    intro y z4 hy
    subst hy
    refine x_callV2 d_Mo_body_117 k_Mo_throwing l_Mo_145 v_Mo_throwing rfl s_Mo_throwing (by first | exact hM.1 | exact hM.s rfl | assumption) RoomE.m (Nat.le_of_ble_eq_true rfl) (c_Mo_throwing (a := false) (b := !mhv (kP X) (kC X) (nI k) x (kT X)) hM ?_)
    refine x_if_eq (tgt := 124) d_Mo_body_120 (by decide) (fun c120 => ?_) (fun c120 => ?_)
    · have hmh : mhv (kP X) (kC X) (nI k) x (kT X) = true := by
        have := bI_0 c120
        simpa using this
      rw [hmh]
      obtain ⟨c, hc6, rfl⟩ := mhv_c hcs0 e200 hmh
      refine x_bipush (v := 7) d_Mo_body_124 (by decide) ?_
      refine x_iload_n d_Mo_body_126 rfl rfl ?_
      refine x_imul d_Mo_body_127 ?_
      rw [mul7]
      first | refine x_aload_n d_Mo_body_128 rfl rfl ?_ | refine x_aloadN_n d_Mo_body_128 rfl rfl ?_ | refine x_aloadE_n d_Mo_body_128 rfl rfl ?_ | refine x_aloadO_n d_Mo_body_128 rfl rfl ?_
      refine x_getR d_Mo_body_129 f_Mo_16 rfl (by first | exact hM.1 | exact hM.s rfl | assumption) (hM.r rfl) ?_
      refine x_iload_n d_Mo_body_132 rfl rfl ?_
      refine x_zald d_Mo_body_133 (by first | exact hM.1 | exact hM.s rfl | assumption) (vp_in_nI hk8 (by decide)) ?_
      rw [nI_clamp (by omega), wI_o (by decide), hr394]
      refine x_if_eq (tgt := 141) d_Mo_body_134 (by decide) (fun c134 => ?_) (fun c134 => ?_)
      · exact absurd c134 (by decide)
      · refine x_iload_n d_Mo_body_137 rfl rfl ?_
        refine x_goto (tgt := 143) d_Mo_body_138 (by decide) ?_
        refine x_iadd d_Mo_body_143 ?_
        rw [nI_add]
        refine x_istore d_Mo_body_144 rfl ?_
        first | refine x_aload_n d_Mo_body_146 rfl rfl ?_ | refine x_aloadN_n d_Mo_body_146 rfl rfl ?_ | refine x_aloadE_n d_Mo_body_146 rfl rfl ?_ | refine x_aloadO_n d_Mo_body_146 rfl rfl ?_
        refine x_getR d_Mo_body_147 f_Mo_23 rfl (by first | exact hM.1 | exact hM.s rfl | assumption) (hM.r rfl) ?_
        refine x_iload d_Mo_body_150 rfl ?_
        first | refine x_aload_n d_Mo_body_152 rfl rfl ?_ | refine x_aloadN_n d_Mo_body_152 rfl rfl ?_ | refine x_aloadE_n d_Mo_body_152 rfl rfl ?_ | refine x_aloadO_n d_Mo_body_152 rfl rfl ?_
        first | refine x_aload_n d_Mo_body_153 rfl rfl ?_ | refine x_aloadN_n d_Mo_body_153 rfl rfl ?_ | refine x_aloadE_n d_Mo_body_153 rfl rfl ?_ | refine x_aloadO_n d_Mo_body_153 rfl rfl ?_
        refine x_getR d_Mo_body_154 f_Mo_20 rfl (by first | exact hM.1 | exact hM.s rfl | assumption) (hM.r rfl) ?_
        refine x_bipush (v := 24) d_Mo_body_157 (by decide) ?_
        refine x_iload d_Mo_body_159 rfl ?_
        refine x_imul d_Mo_body_161 ?_
        rw [mul24]
        refine x_callV2 d_Mo_body_162 k_Mo_takeText l_Mo_153 v_Mo_takeText rfl s_Mo_takeText (by first | exact hM.1 | exact hM.s rfl | assumption) RoomE.m (Nat.le_of_ble_eq_true rfl) (c_Mo_takeText (a := 24 * (7 * k + c)) (zs := kT X) (hM.w (a := 391) (j := 0) (v := 0)) (hM.s rfl) (by decide) (by decide) (by rw [wI_j (by decide)]; exact hX.1.1) (fun i hi => by rw [wI_o (by decide)]; exact hX.1.2 i hi) hW.1.2 (by have := hW.1.2; omega) (by decide) (fun τ1 f1 s1 o1 => ?_))
        have hM := ((hM.w (a := 391) (j := 0) (v := 0)).fr f1)
        refine x_iast d_Mo_body_165 (by first | exact hM.1 | exact hM.s rfl | assumption) (vp_in_nI (show 7 * k + c < 56 by omega) (by decide)) ?_
        rw [nI_clamp (by omega)]
        first | refine x_aload_n d_Mo_body_166 rfl rfl ?_ | refine x_aloadN_n d_Mo_body_166 rfl rfl ?_ | refine x_aloadE_n d_Mo_body_166 rfl rfl ?_ | refine x_aloadO_n d_Mo_body_166 rfl rfl ?_
        refine x_iconst (v := 0) d_Mo_body_167 (by decide) ?_
        refine x_putI d_Mo_body_168 (w_Mo_m_138 _) rfl (by first | rfl | decide) (by first | rfl | decide) (by first | exact hM.1 | exact hM.s rfl | assumption) ?_
        exact x_return d_Mo_body_171 rfl (hQ hN hmh _ (by
          have z := hX.thr (t := 0)
          have hpl : plc (200 + nI k) (nI c) = some (6 * k + c) := by
            rw [show (200 : Int32) + nI k = nI (200 + k) by rw [show (200 : Int32) = nI 200 from rfl, nI_add]]
            exact (plc_n hk8).2 c hc6
          have hbm := mb_bd (X := X) (k := k) (c := c) (i := 6 * k + c) (l := kT X) (tx := []) (T := tClr X.2.2.2.2.2.2.1) hk8 hp0 (by rw [hcs]; rfl) (by rw [hcs]; first | exact hc6 | rfl)
          rw [csBd, hpl]
          refine ⟨⟨?_, seg.nil⟩, fun g hg => ?_, fun g d hg hd => ?_, ⟨?_, fun i hi => ?_⟩, fun w hw => ?_, ?_, ?_, fun hE => ⟨?_, fun i hi => ?_⟩⟩
          · rw [wI_j (by decide), wI_o (by decide), wI_s]; rfl
          · refine ⟨by rw [wI_o (by decide), wI_o (by decide), wI_o (by decide), f1.2 _ (by simp)]; exact (z.2.1 g hg).1, fun y => by rw [wI_o (by decide), wI_o (by decide), wI_o (by decide), f1.2 _ (by simp)]; exact (z.2.1 g hg).2 y⟩
          · have em := hbm g d hg hd
            rw [show mb ([], X.2.1, X.2.2.1, X.2.2.2.1, X.2.2.2.2.1, (match some (6 * k + c) with | some i => upN X.2.2.2.2.2.1 i (kT X) | none => X.2.2.2.2.2.1), tClr X.2.2.2.2.2.2.1, X.2.2.2.2.2.2.2) g d = _ from em]
            by_cases e : g = k ∧ d = c
            · rw [if_pos e, e.1, e.2]
              refine ⟨by rw [wI_o (by decide), wI_s], fun i hi => ?_⟩
              rw [wI_o (by decide), wI_o (by decide), wI_o (by decide)]
              exact s1 i hi
            · rw [if_neg e]
              have zz := z.2.2.1 g d hg hd
              refine ⟨by rw [wI_o (by decide), wI_j (by omega), wI_o (by decide), f1.2 _ (by simp)]; exact zz.1, fun i hi => ?_⟩
              have hlw : (mb X g d).length ≤ 24 := mb_len hW.2.2.1 hg
              rw [wI_o (by decide), wI_o (by decide), wI_o (by decide), o1 _ (by have := hW.1.2; omega)]
              exact zz.2 i hi
          · rw [wI_j (by decide), wI_o (by decide), wI_j (by decide), f1.2 _ (by simp)]; exact z.2.2.2.1.1
          · rw [wI_o (by decide), wI_o (by decide), wI_o (by decide), f1.2 _ (by simp)]; exact z.2.2.2.1.2 i hi
          · refine ⟨by rw [wI_o (by decide), wI_o (by decide), wI_o (by decide), f1.2 _ (by simp)]; exact (z.2.2.2.2.1 w hw).1, fun i hi => ?_⟩
            rw [wI_o (by decide), wI_o (by decide), wI_o (by decide), f1.2 _ (by simp)]; exact (z.2.2.2.2.1 w hw).2 i hi
          · rw [wI_j (by decide), wI_o (by decide), wI_j (by decide), f1.2 _ (by simp)]; exact z.2.2.2.2.2.1
          · rw [wI_j (by decide), wI_o (by decide), wI_j (by decide), f1.2 _ (by simp)]; exact z.2.2.2.2.2.2.1
          · rw [wI_j (by decide), wI_o (by decide), wI_j (by decide), f1.2 _ (by simp)]; exact (z.2.2.2.2.2.2.2 hE).1
          · rw [wI_o (by decide), wI_o (by decide), wI_o (by decide), f1.2 _ (by simp)]; exact (z.2.2.2.2.2.2.2 hE).2 i hi) wI_s (by rw [wI_j (by decide), wI_o (by decide), wI_j (by decide), f1.2 _ (by simp), wI_s]; rfl) ((((FrM.rf.w (by decide) (by decide)).tr (f1.M (by simp))).w (by decide) (by decide)).w (by decide) (by decide) |>.w (by decide) (by decide)))
    · exact x_return d_Mo_body_123 rfl (by
        have hmf : mhv (kP X) (kC X) (nI k) x (kT X) = false := by
          cases z : mhv (kP X) (kC X) (nI k) x (kT X) with
          | true => rw [z] at c120; exact absurd rfl c120
          | false => rfl
        rw [hmf]
        exact hE2 hN hmf)
  refine Ct.of (lv := [some (rf G 391), some (.int (nI k)), some (.int x), none, none, none]) (ll := []) rfl rfl (EN.cat (n := 3) ⟨rfl, rfl, rfl, trivial⟩ (Nat.le_of_ble_eq_true rfl)) ?_
  refine x_iload_n d_Mo_body_0 rfl rfl ?_
  refine x_if_lt (tgt := 19) d_Mo_body_1 (by decide) (fun c1 => ?_) (fun c1 => ?_)
  · exact absurd c1 (nI_pos (by omega))
  · refine x_iload_n d_Mo_body_4 rfl rfl ?_
    refine x_bipush (v := 7) d_Mo_body_5 (by decide) ?_
    refine x_icmp_gt (tgt := 19) d_Mo_body_7 (by decide) (fun c7 => ?_) (fun c7 => ?_)
    · exact absurd (gt7.mp c7) (show ¬ (8 : Int32) ≤ nI k from nI_ge hk8 (by decide))
    · first | refine x_aload_n d_Mo_body_10 rfl rfl ?_ | refine x_aloadN_n d_Mo_body_10 rfl rfl ?_ | refine x_aloadE_n d_Mo_body_10 rfl rfl ?_ | refine x_aloadO_n d_Mo_body_10 rfl rfl ?_
      refine x_getR d_Mo_body_11 f_Mo_13 rfl (by first | exact hM.1 | exact hM.s rfl | assumption) (hM.r rfl) ?_
      refine x_iload_n d_Mo_body_14 rfl rfl ?_
      refine x_iald d_Mo_body_15 (by first | exact hM.1 | exact hM.s rfl | assumption) (vp_in_nI hk8 (by decide)) ?_
      rw [nI_clamp (by omega), (hX.2.1 k hk8).1]
      refine x_if_ne (tgt := 23) d_Mo_body_16 (by decide) (fun c16 => ?_) (fun c16 => ?_)
      · refine x_iconst (v := 0) d_Mo_body_23 (by decide) ?_
        refine x_istore_n d_Mo_body_24 rfl rfl ?_
        refine x_iload_n d_Mo_body_25 rfl rfl ?_
        refine x_if_ne (tgt := 60) d_Mo_body_26 (by decide) (fun c26 => ?_) (fun c26 => ?_)
        · exact absurd rfl c26
        · first | refine x_aload_n d_Mo_body_29 rfl rfl ?_ | refine x_aloadN_n d_Mo_body_29 rfl rfl ?_ | refine x_aloadE_n d_Mo_body_29 rfl rfl ?_ | refine x_aloadO_n d_Mo_body_29 rfl rfl ?_
          refine x_getR d_Mo_body_30 f_Mo_16 rfl (by first | exact hM.1 | exact hM.s rfl | assumption) (hM.r rfl) ?_
          refine x_iload_n d_Mo_body_33 rfl rfl ?_
          refine x_zald d_Mo_body_34 (by first | exact hM.1 | exact hM.s rfl | assumption) (vp_in_nI hk8 (by decide)) ?_
          rw [nI_clamp (by omega), hr394]
          refine x_if_eq (tgt := 51) d_Mo_body_35 (by decide) (fun c35 => ?_) (fun c35 => ?_)
          · exact absurd c35 (by decide)
          · refine x_iload_n d_Mo_body_38 rfl rfl ?_
            refine x_if_lt (tgt := 60) d_Mo_body_39 (by decide) (fun c39 => ?_) (fun c39 => ?_)
            · refine x_iconst (v := 0) d_Mo_body_60 (by decide) ?_
              refine x_istore d_Mo_body_61 rfl ?_
              first | refine x_aload_n d_Mo_body_63 rfl rfl ?_ | refine x_aloadN_n d_Mo_body_63 rfl rfl ?_ | refine x_aloadE_n d_Mo_body_63 rfl rfl ?_ | refine x_aloadO_n d_Mo_body_63 rfl rfl ?_
              refine x_iload_n d_Mo_body_64 rfl rfl ?_
              refine x_iload d_Mo_body_65 rfl ?_
              refine x_if_eq (tgt := 112) d_Mo_body_67 (by decide) (fun c67 => ?_) (fun c67 => ?_)
              · first
                | exact absurd c67 (by decide)
                | refine x_iconst (v := 1) d_Mo_body_112 (by decide) ?_
                  refine x_goto (tgt := 117) d_Mo_body_113 (by decide) ?_
                  first
                  | exact j117 _ _ (by rw [mhv_x hcs0 e200, if_pos c39]; rfl)
                  | exact j117 _ _ (by rw [mhv_x hcs0 e200, if_neg c39, if_neg (fun z => Int32.not_le.mpr z c45)]; rfl)
                  | exact j117 _ _ (by rw [mhv_x hcs0 e200, if_neg (nI_pos (by omega)), if_pos (show nI c < 6 from nI_lt hc6 (by decide)), mhc, ← e1, bI_0 c109]; rfl)
                  | exact j117 _ _ (by rw [mhv_x hcs0 e200, if_neg (nI_pos (by omega)), if_pos (show nI c < 6 from nI_lt hc6 (by decide)), mhc, ← e1, bI_n0 c109]; rfl)
              · first
                | exact absurd rfl c67
                | first | refine x_aload_n d_Mo_body_70 rfl rfl ?_ | refine x_aloadN_n d_Mo_body_70 rfl rfl ?_ | refine x_aloadE_n d_Mo_body_70 rfl rfl ?_ | refine x_aloadO_n d_Mo_body_70 rfl rfl ?_
                  first | refine x_aload_n d_Mo_body_71 rfl rfl ?_ | refine x_aloadN_n d_Mo_body_71 rfl rfl ?_ | refine x_aloadE_n d_Mo_body_71 rfl rfl ?_ | refine x_aloadO_n d_Mo_body_71 rfl rfl ?_
                  refine x_getR d_Mo_body_72 f_Mo_16 rfl (by first | exact hM.1 | exact hM.s rfl | assumption) (hM.r rfl) ?_
                  refine x_iload_n d_Mo_body_75 rfl rfl ?_
                  refine x_zald d_Mo_body_76 (by first | exact hM.1 | exact hM.s rfl | assumption) (vp_in_nI hk8 (by decide)) ?_
                  rw [nI_clamp (by omega), hr394]
                  refine x_if_eq (tgt := 99) d_Mo_body_77 (by decide) (fun c77 => ?_) (fun c77 => ?_)
                  · exact absurd c77 (by decide)
                  · refine x_bipush (v := 100) d_Mo_body_80 (by decide) ?_
                    refine x_iload_n d_Mo_body_82 rfl rfl ?_
                    obtain ⟨c, hc6, rfl⟩ : ∃ c, c < 6 ∧ x = nI c := by
                      obtain ⟨c, hc, rfl⟩ := nI_of c39
                      exact ⟨c, Nat.not_le.mp fun z => c45 (show nI 6 ≤ nI c from nI_le z hc), rfl⟩
                    refine x_iadd d_Mo_body_83 ?_
                    rw [show (100 : Int32) + nI c = nI (100 + c) by rw [show (100 : Int32) = nI 100 from rfl, nI_add]]
                    refine x_callS1 d_Mo_body_84 k_Mo_builtOf l_Mo_120 z_Mo_builtOf RoomE.m (Nat.le_of_ble_eq_true rfl) (c_Mo_builtOf ?_)
                    rw [bO_c hc6]
                    first | refine x_aload_n d_Mo_body_87 rfl rfl ?_ | refine x_aloadN_n d_Mo_body_87 rfl rfl ?_ | refine x_aloadE_n d_Mo_body_87 rfl rfl ?_ | refine x_aloadO_n d_Mo_body_87 rfl rfl ?_
                    refine x_getR d_Mo_body_88 f_Mo_13 rfl (by first | exact hM.1 | exact hM.s rfl | assumption) (hM.r rfl) ?_
                    refine x_iload_n d_Mo_body_91 rfl rfl ?_
                    refine x_iald d_Mo_body_92 (by first | exact hM.1 | exact hM.s rfl | assumption) (vp_in_nI hk8 (by decide)) ?_
                    rw [nI_clamp (by omega), hpp k hk8]
                    refine x_iadd d_Mo_body_93 ?_
                    refine x_iconst (v := 1) d_Mo_body_94 (by decide) ?_
                    refine x_isub d_Mo_body_95 ?_
                    refine x_goto (tgt := 105) d_Mo_body_96 (by decide) ?_
                    refine x_iconst (v := 1) d_Mo_body_105 (by decide) ?_
                    rw [show pK (nI c) + kP X (200 + k) - 1 = sgP (kP X) (nI (200 + k)) + (pK (nI c) - 1) by
                      rw [sgP_n (by omega), Int32.add_comm, Int32.sub_eq_add_neg, Int32.sub_eq_add_neg, Int32.add_assoc]]
                    refine x_callV2 d_Mo_body_106 k_Mo_isTerm l_Mo_149 v_Mo_isTerm rfl s_Mo_isTerm (by first | exact hM.1 | exact hM.s rfl | assumption) RoomE.m (Nat.le_of_ble_eq_true rfl) (c_Mo_isTerm (lim := sgP (kP X) (nI (200 + k)) + (pK (nI c) - 1)) (fn := true) hM hX.1.1 hX.1.2 hW.1.2 hW.1.1 hpa ?_)
                    have e1 := itm_trm (lim := sgP (kP X) (nI (200 + k)) + (pK (nI c) - 1)) hW.2.1 hpp (zs := kT X) (m := 1) hW.1.1 (by have := hW.1.2; omega)
                    rw [show nI 1 = (1 : Int32) from rfl] at e1
                    refine x_if_ne (tgt := 116) d_Mo_body_109 (by decide) (fun c109 => ?_) (fun c109 => ?_)
                    · refine x_iconst (v := 0) d_Mo_body_116 (by decide) ?_
                      first
                      | exact j117 _ _ (by rw [mhv_x hcs0 e200, if_pos c39]; rfl)
                      | exact j117 _ _ (by rw [mhv_x hcs0 e200, if_neg c39, if_neg (fun z => Int32.not_le.mpr z c45)]; rfl)
                      | exact j117 _ _ (by rw [mhv_x hcs0 e200, if_neg (nI_pos (by omega)), if_pos (show nI c < 6 from nI_lt hc6 (by decide)), mhc, ← e1, bI_0 c109]; rfl)
                      | exact j117 _ _ (by rw [mhv_x hcs0 e200, if_neg (nI_pos (by omega)), if_pos (show nI c < 6 from nI_lt hc6 (by decide)), mhc, ← e1, bI_n0 c109]; rfl)
                    · refine x_iconst (v := 1) d_Mo_body_112 (by decide) ?_
                      refine x_goto (tgt := 117) d_Mo_body_113 (by decide) ?_
                      first
                      | exact j117 _ _ (by rw [mhv_x hcs0 e200, if_pos c39]; rfl)
                      | exact j117 _ _ (by rw [mhv_x hcs0 e200, if_neg c39, if_neg (fun z => Int32.not_le.mpr z c45)]; rfl)
                      | exact j117 _ _ (by rw [mhv_x hcs0 e200, if_neg (nI_pos (by omega)), if_pos (show nI c < 6 from nI_lt hc6 (by decide)), mhc, ← e1, bI_0 c109]; rfl)
                      | exact j117 _ _ (by rw [mhv_x hcs0 e200, if_neg (nI_pos (by omega)), if_pos (show nI c < 6 from nI_lt hc6 (by decide)), mhc, ← e1, bI_n0 c109]; rfl)
            · refine x_iload_n d_Mo_body_42 rfl rfl ?_
              refine x_bipush (v := 6) d_Mo_body_43 (by decide) ?_
              refine x_icmp_ge (tgt := 60) d_Mo_body_45 (by decide) (fun c45 => ?_) (fun c45 => ?_)
              · refine x_iconst (v := 0) d_Mo_body_60 (by decide) ?_
                refine x_istore d_Mo_body_61 rfl ?_
                first | refine x_aload_n d_Mo_body_63 rfl rfl ?_ | refine x_aloadN_n d_Mo_body_63 rfl rfl ?_ | refine x_aloadE_n d_Mo_body_63 rfl rfl ?_ | refine x_aloadO_n d_Mo_body_63 rfl rfl ?_
                refine x_iload_n d_Mo_body_64 rfl rfl ?_
                refine x_iload d_Mo_body_65 rfl ?_
                refine x_if_eq (tgt := 112) d_Mo_body_67 (by decide) (fun c67 => ?_) (fun c67 => ?_)
                · first
                  | exact absurd c67 (by decide)
                  | refine x_iconst (v := 1) d_Mo_body_112 (by decide) ?_
                    refine x_goto (tgt := 117) d_Mo_body_113 (by decide) ?_
                    first
                    | exact j117 _ _ (by rw [mhv_x hcs0 e200, if_pos c39]; rfl)
                    | exact j117 _ _ (by rw [mhv_x hcs0 e200, if_neg c39, if_neg (fun z => Int32.not_le.mpr z c45)]; rfl)
                    | exact j117 _ _ (by rw [mhv_x hcs0 e200, if_neg (nI_pos (by omega)), if_pos (show nI c < 6 from nI_lt hc6 (by decide)), mhc, ← e1, bI_0 c109]; rfl)
                    | exact j117 _ _ (by rw [mhv_x hcs0 e200, if_neg (nI_pos (by omega)), if_pos (show nI c < 6 from nI_lt hc6 (by decide)), mhc, ← e1, bI_n0 c109]; rfl)
                · first
                  | exact absurd rfl c67
                  | first | refine x_aload_n d_Mo_body_70 rfl rfl ?_ | refine x_aloadN_n d_Mo_body_70 rfl rfl ?_ | refine x_aloadE_n d_Mo_body_70 rfl rfl ?_ | refine x_aloadO_n d_Mo_body_70 rfl rfl ?_
                    first | refine x_aload_n d_Mo_body_71 rfl rfl ?_ | refine x_aloadN_n d_Mo_body_71 rfl rfl ?_ | refine x_aloadE_n d_Mo_body_71 rfl rfl ?_ | refine x_aloadO_n d_Mo_body_71 rfl rfl ?_
                    refine x_getR d_Mo_body_72 f_Mo_16 rfl (by first | exact hM.1 | exact hM.s rfl | assumption) (hM.r rfl) ?_
                    refine x_iload_n d_Mo_body_75 rfl rfl ?_
                    refine x_zald d_Mo_body_76 (by first | exact hM.1 | exact hM.s rfl | assumption) (vp_in_nI hk8 (by decide)) ?_
                    rw [nI_clamp (by omega), hr394]
                    refine x_if_eq (tgt := 99) d_Mo_body_77 (by decide) (fun c77 => ?_) (fun c77 => ?_)
                    · exact absurd c77 (by decide)
                    · refine x_bipush (v := 100) d_Mo_body_80 (by decide) ?_
                      refine x_iload_n d_Mo_body_82 rfl rfl ?_
                      obtain ⟨c, hc6, rfl⟩ : ∃ c, c < 6 ∧ x = nI c := by
                        obtain ⟨c, hc, rfl⟩ := nI_of c39
                        exact ⟨c, Nat.not_le.mp fun z => c45 (show nI 6 ≤ nI c from nI_le z hc), rfl⟩
                      refine x_iadd d_Mo_body_83 ?_
                      rw [show (100 : Int32) + nI c = nI (100 + c) by rw [show (100 : Int32) = nI 100 from rfl, nI_add]]
                      refine x_callS1 d_Mo_body_84 k_Mo_builtOf l_Mo_120 z_Mo_builtOf RoomE.m (Nat.le_of_ble_eq_true rfl) (c_Mo_builtOf ?_)
                      rw [bO_c hc6]
                      first | refine x_aload_n d_Mo_body_87 rfl rfl ?_ | refine x_aloadN_n d_Mo_body_87 rfl rfl ?_ | refine x_aloadE_n d_Mo_body_87 rfl rfl ?_ | refine x_aloadO_n d_Mo_body_87 rfl rfl ?_
                      refine x_getR d_Mo_body_88 f_Mo_13 rfl (by first | exact hM.1 | exact hM.s rfl | assumption) (hM.r rfl) ?_
                      refine x_iload_n d_Mo_body_91 rfl rfl ?_
                      refine x_iald d_Mo_body_92 (by first | exact hM.1 | exact hM.s rfl | assumption) (vp_in_nI hk8 (by decide)) ?_
                      rw [nI_clamp (by omega), hpp k hk8]
                      refine x_iadd d_Mo_body_93 ?_
                      refine x_iconst (v := 1) d_Mo_body_94 (by decide) ?_
                      refine x_isub d_Mo_body_95 ?_
                      refine x_goto (tgt := 105) d_Mo_body_96 (by decide) ?_
                      refine x_iconst (v := 1) d_Mo_body_105 (by decide) ?_
                      rw [show pK (nI c) + kP X (200 + k) - 1 = sgP (kP X) (nI (200 + k)) + (pK (nI c) - 1) by
                        rw [sgP_n (by omega), Int32.add_comm, Int32.sub_eq_add_neg, Int32.sub_eq_add_neg, Int32.add_assoc]]
                      refine x_callV2 d_Mo_body_106 k_Mo_isTerm l_Mo_149 v_Mo_isTerm rfl s_Mo_isTerm (by first | exact hM.1 | exact hM.s rfl | assumption) RoomE.m (Nat.le_of_ble_eq_true rfl) (c_Mo_isTerm (lim := sgP (kP X) (nI (200 + k)) + (pK (nI c) - 1)) (fn := true) hM hX.1.1 hX.1.2 hW.1.2 hW.1.1 hpa ?_)
                      have e1 := itm_trm (lim := sgP (kP X) (nI (200 + k)) + (pK (nI c) - 1)) hW.2.1 hpp (zs := kT X) (m := 1) hW.1.1 (by have := hW.1.2; omega)
                      rw [show nI 1 = (1 : Int32) from rfl] at e1
                      refine x_if_ne (tgt := 116) d_Mo_body_109 (by decide) (fun c109 => ?_) (fun c109 => ?_)
                      · refine x_iconst (v := 0) d_Mo_body_116 (by decide) ?_
                        first
                        | exact j117 _ _ (by rw [mhv_x hcs0 e200, if_pos c39]; rfl)
                        | exact j117 _ _ (by rw [mhv_x hcs0 e200, if_neg c39, if_neg (fun z => Int32.not_le.mpr z c45)]; rfl)
                        | exact j117 _ _ (by rw [mhv_x hcs0 e200, if_neg (nI_pos (by omega)), if_pos (show nI c < 6 from nI_lt hc6 (by decide)), mhc, ← e1, bI_0 c109]; rfl)
                        | exact j117 _ _ (by rw [mhv_x hcs0 e200, if_neg (nI_pos (by omega)), if_pos (show nI c < 6 from nI_lt hc6 (by decide)), mhc, ← e1, bI_n0 c109]; rfl)
                      · refine x_iconst (v := 1) d_Mo_body_112 (by decide) ?_
                        refine x_goto (tgt := 117) d_Mo_body_113 (by decide) ?_
                        first
                        | exact j117 _ _ (by rw [mhv_x hcs0 e200, if_pos c39]; rfl)
                        | exact j117 _ _ (by rw [mhv_x hcs0 e200, if_neg c39, if_neg (fun z => Int32.not_le.mpr z c45)]; rfl)
                        | exact j117 _ _ (by rw [mhv_x hcs0 e200, if_neg (nI_pos (by omega)), if_pos (show nI c < 6 from nI_lt hc6 (by decide)), mhc, ← e1, bI_0 c109]; rfl)
                        | exact j117 _ _ (by rw [mhv_x hcs0 e200, if_neg (nI_pos (by omega)), if_pos (show nI c < 6 from nI_lt hc6 (by decide)), mhc, ← e1, bI_n0 c109]; rfl)
              · refine x_goto (tgt := 56) d_Mo_body_48 (by decide) ?_
                refine x_iconst (v := 1) d_Mo_body_56 (by decide) ?_
                refine x_goto (tgt := 61) d_Mo_body_57 (by decide) ?_
                refine x_istore d_Mo_body_61 rfl ?_
                first | refine x_aload_n d_Mo_body_63 rfl rfl ?_ | refine x_aloadN_n d_Mo_body_63 rfl rfl ?_ | refine x_aloadE_n d_Mo_body_63 rfl rfl ?_ | refine x_aloadO_n d_Mo_body_63 rfl rfl ?_
                refine x_iload_n d_Mo_body_64 rfl rfl ?_
                refine x_iload d_Mo_body_65 rfl ?_
                refine x_if_eq (tgt := 112) d_Mo_body_67 (by decide) (fun c67 => ?_) (fun c67 => ?_)
                · first
                  | exact absurd c67 (by decide)
                  | refine x_iconst (v := 1) d_Mo_body_112 (by decide) ?_
                    refine x_goto (tgt := 117) d_Mo_body_113 (by decide) ?_
                    first
                    | exact j117 _ _ (by rw [mhv_x hcs0 e200, if_pos c39]; rfl)
                    | exact j117 _ _ (by rw [mhv_x hcs0 e200, if_neg c39, if_neg (fun z => Int32.not_le.mpr z c45)]; rfl)
                    | exact j117 _ _ (by rw [mhv_x hcs0 e200, if_neg (nI_pos (by omega)), if_pos (show nI c < 6 from nI_lt hc6 (by decide)), mhc, ← e1, bI_0 c109]; rfl)
                    | exact j117 _ _ (by rw [mhv_x hcs0 e200, if_neg (nI_pos (by omega)), if_pos (show nI c < 6 from nI_lt hc6 (by decide)), mhc, ← e1, bI_n0 c109]; rfl)
                · first
                  | exact absurd rfl c67
                  | first | refine x_aload_n d_Mo_body_70 rfl rfl ?_ | refine x_aloadN_n d_Mo_body_70 rfl rfl ?_ | refine x_aloadE_n d_Mo_body_70 rfl rfl ?_ | refine x_aloadO_n d_Mo_body_70 rfl rfl ?_
                    first | refine x_aload_n d_Mo_body_71 rfl rfl ?_ | refine x_aloadN_n d_Mo_body_71 rfl rfl ?_ | refine x_aloadE_n d_Mo_body_71 rfl rfl ?_ | refine x_aloadO_n d_Mo_body_71 rfl rfl ?_
                    refine x_getR d_Mo_body_72 f_Mo_16 rfl (by first | exact hM.1 | exact hM.s rfl | assumption) (hM.r rfl) ?_
                    refine x_iload_n d_Mo_body_75 rfl rfl ?_
                    refine x_zald d_Mo_body_76 (by first | exact hM.1 | exact hM.s rfl | assumption) (vp_in_nI hk8 (by decide)) ?_
                    rw [nI_clamp (by omega), hr394]
                    refine x_if_eq (tgt := 99) d_Mo_body_77 (by decide) (fun c77 => ?_) (fun c77 => ?_)
                    · exact absurd c77 (by decide)
                    · refine x_bipush (v := 100) d_Mo_body_80 (by decide) ?_
                      refine x_iload_n d_Mo_body_82 rfl rfl ?_
                      obtain ⟨c, hc6, rfl⟩ : ∃ c, c < 6 ∧ x = nI c := by
                        obtain ⟨c, hc, rfl⟩ := nI_of c39
                        exact ⟨c, Nat.not_le.mp fun z => c45 (show nI 6 ≤ nI c from nI_le z hc), rfl⟩
                      refine x_iadd d_Mo_body_83 ?_
                      rw [show (100 : Int32) + nI c = nI (100 + c) by rw [show (100 : Int32) = nI 100 from rfl, nI_add]]
                      refine x_callS1 d_Mo_body_84 k_Mo_builtOf l_Mo_120 z_Mo_builtOf RoomE.m (Nat.le_of_ble_eq_true rfl) (c_Mo_builtOf ?_)
                      rw [bO_c hc6]
                      first | refine x_aload_n d_Mo_body_87 rfl rfl ?_ | refine x_aloadN_n d_Mo_body_87 rfl rfl ?_ | refine x_aloadE_n d_Mo_body_87 rfl rfl ?_ | refine x_aloadO_n d_Mo_body_87 rfl rfl ?_
                      refine x_getR d_Mo_body_88 f_Mo_13 rfl (by first | exact hM.1 | exact hM.s rfl | assumption) (hM.r rfl) ?_
                      refine x_iload_n d_Mo_body_91 rfl rfl ?_
                      refine x_iald d_Mo_body_92 (by first | exact hM.1 | exact hM.s rfl | assumption) (vp_in_nI hk8 (by decide)) ?_
                      rw [nI_clamp (by omega), hpp k hk8]
                      refine x_iadd d_Mo_body_93 ?_
                      refine x_iconst (v := 1) d_Mo_body_94 (by decide) ?_
                      refine x_isub d_Mo_body_95 ?_
                      refine x_goto (tgt := 105) d_Mo_body_96 (by decide) ?_
                      refine x_iconst (v := 1) d_Mo_body_105 (by decide) ?_
                      rw [show pK (nI c) + kP X (200 + k) - 1 = sgP (kP X) (nI (200 + k)) + (pK (nI c) - 1) by
                        rw [sgP_n (by omega), Int32.add_comm, Int32.sub_eq_add_neg, Int32.sub_eq_add_neg, Int32.add_assoc]]
                      refine x_callV2 d_Mo_body_106 k_Mo_isTerm l_Mo_149 v_Mo_isTerm rfl s_Mo_isTerm (by first | exact hM.1 | exact hM.s rfl | assumption) RoomE.m (Nat.le_of_ble_eq_true rfl) (c_Mo_isTerm (lim := sgP (kP X) (nI (200 + k)) + (pK (nI c) - 1)) (fn := true) hM hX.1.1 hX.1.2 hW.1.2 hW.1.1 hpa ?_)
                      have e1 := itm_trm (lim := sgP (kP X) (nI (200 + k)) + (pK (nI c) - 1)) hW.2.1 hpp (zs := kT X) (m := 1) hW.1.1 (by have := hW.1.2; omega)
                      rw [show nI 1 = (1 : Int32) from rfl] at e1
                      refine x_if_ne (tgt := 116) d_Mo_body_109 (by decide) (fun c109 => ?_) (fun c109 => ?_)
                      · refine x_iconst (v := 0) d_Mo_body_116 (by decide) ?_
                        first
                        | exact j117 _ _ (by rw [mhv_x hcs0 e200, if_pos c39]; rfl)
                        | exact j117 _ _ (by rw [mhv_x hcs0 e200, if_neg c39, if_neg (fun z => Int32.not_le.mpr z c45)]; rfl)
                        | exact j117 _ _ (by rw [mhv_x hcs0 e200, if_neg (nI_pos (by omega)), if_pos (show nI c < 6 from nI_lt hc6 (by decide)), mhc, ← e1, bI_0 c109]; rfl)
                        | exact j117 _ _ (by rw [mhv_x hcs0 e200, if_neg (nI_pos (by omega)), if_pos (show nI c < 6 from nI_lt hc6 (by decide)), mhc, ← e1, bI_n0 c109]; rfl)
                      · refine x_iconst (v := 1) d_Mo_body_112 (by decide) ?_
                        refine x_goto (tgt := 117) d_Mo_body_113 (by decide) ?_
                        first
                        | exact j117 _ _ (by rw [mhv_x hcs0 e200, if_pos c39]; rfl)
                        | exact j117 _ _ (by rw [mhv_x hcs0 e200, if_neg c39, if_neg (fun z => Int32.not_le.mpr z c45)]; rfl)
                        | exact j117 _ _ (by rw [mhv_x hcs0 e200, if_neg (nI_pos (by omega)), if_pos (show nI c < 6 from nI_lt hc6 (by decide)), mhc, ← e1, bI_0 c109]; rfl)
                        | exact j117 _ _ (by rw [mhv_x hcs0 e200, if_neg (nI_pos (by omega)), if_pos (show nI c < 6 from nI_lt hc6 (by decide)), mhc, ← e1, bI_n0 c109]; rfl)
      · exact absurd c16 hp0
set_option maxRecDepth 10000 in
set_option maxHeartbeats 1000000 in
theorem c_Mo_body_p {G : Ctx} {d : Nat} {Γ : List Sh} {σ : Mem} {Q : Option Value → List Sh → Mem → Prop} {X : CS} {f x : Int32} (hM : MoS Γ σ) (hX : isMC σ X) (hW : csW X) (hE1 : dcl (kP X) f = false → Q none Γ (wI σ 391 0 1)) (hE2 : dcl (kP X) f = true → mhv (kP X) (kC X) f x (kT X) = false → Q none Γ (wI σ 391 0 2)) (hQ : dcl (kP X) f = true → mhv (kP X) (kC X) f x (kT X) = true → ∀ σ', isMC σ' (csBd X f x) → σ'.1 391 11 = 0 → σ'.1 391 0 = 0 → FrM σ σ' → Q none Γ σ') (hN : dcl (kP X) f = true) (hcs0 : sgC (kC X) (200 + f) = false) : Ct G M_Mo_body (d + 3) 0 0 [rf G 391, .int f, .int x] Γ σ Q := by
  obtain ⟨k, hk8, rfl⟩ : ∃ k, k < 8 ∧ f = nI k := by
    obtain ⟨h1, h2⟩ := dcl_in hN
    obtain ⟨k, hk, rfl⟩ := nI_of h1
    exact ⟨k, Nat.not_le.mp fun z => h2 (show nI 8 ≤ nI k from nI_le z hk), rfl⟩
  have e200 : (200 : Int32) + nI k = nI (200 + k) := by rw [show (200 : Int32) = nI 200 from rfl, nI_add]
  rw [e200] at hcs0
  have hcs : kC X (200 + k) = false := by rw [← hcs0, sgC_n (by omega)]
  have hp0 : kP X (200 + k) ≠ 0 := fun z => by rw [(dcl_n hW.2.1 hk8).2.mp z] at hN; cases hN
  have hpp : ∀ f, f < 8 → σ.1 393 f = kP X (200 + f) := fun f hf => (hX.2.1 f hf).1
  have hpa := pAll_of hW.2.1 hpp hW.1.1 tA_k
  have hr394 : σ.1 394 k = bI false := by rw [(hX.2.1 k hk8).2 hp0, hcs]
  have j117 : ∀ (y z4 : Int32), y = bI (!mhv (kP X) (kC X) (nI k) x (kT X)) → Wq G M_Mo_body (Em G (d + 3) 0 0 Q) 0 0 117 [some (rf G 391), some (.int (nI k)), some (.int x), some (.int (bI false)), some (.int z4), none] [] [.int y, .int (bI false), rf G 391] Γ σ := by
    intro y z4 hy
    subst hy
    refine x_callV2 d_Mo_body_117 k_Mo_throwing l_Mo_145 v_Mo_throwing rfl s_Mo_throwing (by first | exact hM.1 | exact hM.s rfl | assumption) RoomE.m (Nat.le_of_ble_eq_true rfl) (c_Mo_throwing (a := false) (b := !mhv (kP X) (kC X) (nI k) x (kT X)) hM ?_)
    refine x_if_eq (tgt := 124) d_Mo_body_120 (by decide) (fun c120 => ?_) (fun c120 => ?_)
    · have hmh : mhv (kP X) (kC X) (nI k) x (kT X) = true := by
        have := bI_0 c120
        simpa using this
      rw [hmh]
      obtain rfl := mhv_p hcs0 e200 hmh
      refine x_bipush (v := 7) d_Mo_body_124 (by decide) ?_
      refine x_iload_n d_Mo_body_126 rfl rfl ?_
      refine x_imul d_Mo_body_127 ?_
      rw [mul7]
      first | refine x_aload_n d_Mo_body_128 rfl rfl ?_ | refine x_aloadN_n d_Mo_body_128 rfl rfl ?_ | refine x_aloadE_n d_Mo_body_128 rfl rfl ?_ | refine x_aloadO_n d_Mo_body_128 rfl rfl ?_
      refine x_getR d_Mo_body_129 f_Mo_16 rfl (by first | exact hM.1 | exact hM.s rfl | assumption) (hM.r rfl) ?_
      refine x_iload_n d_Mo_body_132 rfl rfl ?_
      refine x_zald d_Mo_body_133 (by first | exact hM.1 | exact hM.s rfl | assumption) (vp_in_nI hk8 (by decide)) ?_
      rw [nI_clamp (by omega), wI_o (by decide), hr394]
      refine x_if_eq (tgt := 141) d_Mo_body_134 (by decide) (fun c134 => ?_) (fun c134 => ?_)
      · refine x_bipush (v := 6) d_Mo_body_141 (by decide) ?_
        refine x_iadd d_Mo_body_143 ?_
        rw [show (6 : Int32) = nI 6 from rfl, nI_add]
        refine x_istore d_Mo_body_144 rfl ?_
        first | refine x_aload_n d_Mo_body_146 rfl rfl ?_ | refine x_aloadN_n d_Mo_body_146 rfl rfl ?_ | refine x_aloadE_n d_Mo_body_146 rfl rfl ?_ | refine x_aloadO_n d_Mo_body_146 rfl rfl ?_
        refine x_getR d_Mo_body_147 f_Mo_23 rfl (by first | exact hM.1 | exact hM.s rfl | assumption) (hM.r rfl) ?_
        refine x_iload d_Mo_body_150 rfl ?_
        first | refine x_aload_n d_Mo_body_152 rfl rfl ?_ | refine x_aloadN_n d_Mo_body_152 rfl rfl ?_ | refine x_aloadE_n d_Mo_body_152 rfl rfl ?_ | refine x_aloadO_n d_Mo_body_152 rfl rfl ?_
        first | refine x_aload_n d_Mo_body_153 rfl rfl ?_ | refine x_aloadN_n d_Mo_body_153 rfl rfl ?_ | refine x_aloadE_n d_Mo_body_153 rfl rfl ?_ | refine x_aloadO_n d_Mo_body_153 rfl rfl ?_
        refine x_getR d_Mo_body_154 f_Mo_20 rfl (by first | exact hM.1 | exact hM.s rfl | assumption) (hM.r rfl) ?_
        refine x_bipush (v := 24) d_Mo_body_157 (by decide) ?_
        refine x_iload d_Mo_body_159 rfl ?_
        refine x_imul d_Mo_body_161 ?_
        rw [mul24]
        refine x_callV2 d_Mo_body_162 k_Mo_takeText l_Mo_153 v_Mo_takeText rfl s_Mo_takeText (by first | exact hM.1 | exact hM.s rfl | assumption) RoomE.m (Nat.le_of_ble_eq_true rfl) (c_Mo_takeText (a := 24 * (7 * k + 6)) (zs := kT X) (hM.w (a := 391) (j := 0) (v := 0)) (hM.s rfl) (by decide) (by decide) (by rw [wI_j (by decide)]; exact hX.1.1) (fun i hi => by rw [wI_o (by decide)]; exact hX.1.2 i hi) hW.1.2 (by have := hW.1.2; omega) (by decide) (fun τ1 f1 s1 o1 => ?_))
        have hM := ((hM.w (a := 391) (j := 0) (v := 0)).fr f1)
        refine x_iast d_Mo_body_165 (by first | exact hM.1 | exact hM.s rfl | assumption) (vp_in_nI (show 7 * k + 6 < 56 by omega) (by decide)) ?_
        rw [nI_clamp (by omega)]
        first | refine x_aload_n d_Mo_body_166 rfl rfl ?_ | refine x_aloadN_n d_Mo_body_166 rfl rfl ?_ | refine x_aloadE_n d_Mo_body_166 rfl rfl ?_ | refine x_aloadO_n d_Mo_body_166 rfl rfl ?_
        refine x_iconst (v := 0) d_Mo_body_167 (by decide) ?_
        refine x_putI d_Mo_body_168 (w_Mo_m_138 _) rfl (by first | rfl | decide) (by first | rfl | decide) (by first | exact hM.1 | exact hM.s rfl | assumption) ?_
        exact x_return d_Mo_body_171 rfl (hQ hN hmh _ (by
          have z := hX.thr (t := 0)
          have hpl : plc (200 + nI k) (-1) = some (6 * k) := by
            rw [show (200 : Int32) + nI k = nI (200 + k) by rw [show (200 : Int32) = nI 200 from rfl, nI_add]]
            exact (plc_n hk8).1
          have hbm := mb_bd (X := X) (k := k) (c := 6) (i := 6 * k) (l := kT X) (tx := []) (T := tClr X.2.2.2.2.2.2.1) hk8 hp0 (by rw [hcs]; rfl) (by rw [hcs]; first | exact hc6 | rfl)
          rw [csBd, hpl]
          refine ⟨⟨?_, seg.nil⟩, fun g hg => ?_, fun g d hg hd => ?_, ⟨?_, fun i hi => ?_⟩, fun w hw => ?_, ?_, ?_, fun hE => ⟨?_, fun i hi => ?_⟩⟩
          · rw [wI_j (by decide), wI_o (by decide), wI_s]; rfl
          · refine ⟨by rw [wI_o (by decide), wI_o (by decide), wI_o (by decide), f1.2 _ (by simp)]; exact (z.2.1 g hg).1, fun y => by rw [wI_o (by decide), wI_o (by decide), wI_o (by decide), f1.2 _ (by simp)]; exact (z.2.1 g hg).2 y⟩
          · have em := hbm g d hg hd
            rw [show mb ([], X.2.1, X.2.2.1, X.2.2.2.1, X.2.2.2.2.1, (match some (6 * k) with | some i => upN X.2.2.2.2.2.1 i (kT X) | none => X.2.2.2.2.2.1), tClr X.2.2.2.2.2.2.1, X.2.2.2.2.2.2.2) g d = _ from em]
            by_cases e : g = k ∧ d = 6
            · rw [if_pos e, e.1, e.2]
              refine ⟨by rw [wI_o (by decide), wI_s], fun i hi => ?_⟩
              rw [wI_o (by decide), wI_o (by decide), wI_o (by decide)]
              exact s1 i hi
            · rw [if_neg e]
              have zz := z.2.2.1 g d hg hd
              refine ⟨by rw [wI_o (by decide), wI_j (by omega), wI_o (by decide), f1.2 _ (by simp)]; exact zz.1, fun i hi => ?_⟩
              have hlw : (mb X g d).length ≤ 24 := mb_len hW.2.2.1 hg
              rw [wI_o (by decide), wI_o (by decide), wI_o (by decide), o1 _ (by have := hW.1.2; omega)]
              exact zz.2 i hi
          · rw [wI_j (by decide), wI_o (by decide), wI_j (by decide), f1.2 _ (by simp)]; exact z.2.2.2.1.1
          · rw [wI_o (by decide), wI_o (by decide), wI_o (by decide), f1.2 _ (by simp)]; exact z.2.2.2.1.2 i hi
          · refine ⟨by rw [wI_o (by decide), wI_o (by decide), wI_o (by decide), f1.2 _ (by simp)]; exact (z.2.2.2.2.1 w hw).1, fun i hi => ?_⟩
            rw [wI_o (by decide), wI_o (by decide), wI_o (by decide), f1.2 _ (by simp)]; exact (z.2.2.2.2.1 w hw).2 i hi
          · rw [wI_j (by decide), wI_o (by decide), wI_j (by decide), f1.2 _ (by simp)]; exact z.2.2.2.2.2.1
          · rw [wI_j (by decide), wI_o (by decide), wI_j (by decide), f1.2 _ (by simp)]; exact z.2.2.2.2.2.2.1
          · rw [wI_j (by decide), wI_o (by decide), wI_j (by decide), f1.2 _ (by simp)]; exact (z.2.2.2.2.2.2.2 hE).1
          · rw [wI_o (by decide), wI_o (by decide), wI_o (by decide), f1.2 _ (by simp)]; exact (z.2.2.2.2.2.2.2 hE).2 i hi) wI_s (by rw [wI_j (by decide), wI_o (by decide), wI_j (by decide), f1.2 _ (by simp), wI_s]; rfl) ((((FrM.rf.w (by decide) (by decide)).tr (f1.M (by simp))).w (by decide) (by decide)).w (by decide) (by decide) |>.w (by decide) (by decide)))
      · exact absurd rfl c134
    · exact x_return d_Mo_body_123 rfl (by
        have hmf : mhv (kP X) (kC X) (nI k) x (kT X) = false := by
          cases z : mhv (kP X) (kC X) (nI k) x (kT X) with
          | true => rw [z] at c120; exact absurd rfl c120
          | false => rfl
        rw [hmf]
        exact hE2 hN hmf)
  refine Ct.of (lv := [some (rf G 391), some (.int (nI k)), some (.int x), none, none, none]) (ll := []) rfl rfl (EN.cat (n := 3) ⟨rfl, rfl, rfl, trivial⟩ (Nat.le_of_ble_eq_true rfl)) ?_
  refine x_iload_n d_Mo_body_0 rfl rfl ?_
  refine x_if_lt (tgt := 19) d_Mo_body_1 (by decide) (fun c1 => ?_) (fun c1 => ?_)
  · exact absurd c1 (nI_pos (by omega))
  · refine x_iload_n d_Mo_body_4 rfl rfl ?_
    refine x_bipush (v := 7) d_Mo_body_5 (by decide) ?_
    refine x_icmp_gt (tgt := 19) d_Mo_body_7 (by decide) (fun c7 => ?_) (fun c7 => ?_)
    · exact absurd (gt7.mp c7) (show ¬ (8 : Int32) ≤ nI k from nI_ge hk8 (by decide))
    · first | refine x_aload_n d_Mo_body_10 rfl rfl ?_ | refine x_aloadN_n d_Mo_body_10 rfl rfl ?_ | refine x_aloadE_n d_Mo_body_10 rfl rfl ?_ | refine x_aloadO_n d_Mo_body_10 rfl rfl ?_
      refine x_getR d_Mo_body_11 f_Mo_13 rfl (by first | exact hM.1 | exact hM.s rfl | assumption) (hM.r rfl) ?_
      refine x_iload_n d_Mo_body_14 rfl rfl ?_
      refine x_iald d_Mo_body_15 (by first | exact hM.1 | exact hM.s rfl | assumption) (vp_in_nI hk8 (by decide)) ?_
      rw [nI_clamp (by omega), (hX.2.1 k hk8).1]
      refine x_if_ne (tgt := 23) d_Mo_body_16 (by decide) (fun c16 => ?_) (fun c16 => ?_)
      · refine x_iconst (v := 0) d_Mo_body_23 (by decide) ?_
        refine x_istore_n d_Mo_body_24 rfl rfl ?_
        refine x_iload_n d_Mo_body_25 rfl rfl ?_
        refine x_if_ne (tgt := 60) d_Mo_body_26 (by decide) (fun c26 => ?_) (fun c26 => ?_)
        · exact absurd rfl c26
        · first | refine x_aload_n d_Mo_body_29 rfl rfl ?_ | refine x_aloadN_n d_Mo_body_29 rfl rfl ?_ | refine x_aloadE_n d_Mo_body_29 rfl rfl ?_ | refine x_aloadO_n d_Mo_body_29 rfl rfl ?_
          refine x_getR d_Mo_body_30 f_Mo_16 rfl (by first | exact hM.1 | exact hM.s rfl | assumption) (hM.r rfl) ?_
          refine x_iload_n d_Mo_body_33 rfl rfl ?_
          refine x_zald d_Mo_body_34 (by first | exact hM.1 | exact hM.s rfl | assumption) (vp_in_nI hk8 (by decide)) ?_
          rw [nI_clamp (by omega), hr394]
          refine x_if_eq (tgt := 51) d_Mo_body_35 (by decide) (fun c35 => ?_) (fun c35 => ?_)
          · refine x_iload_n d_Mo_body_51 rfl rfl ?_
            refine x_iconst (v := -1) d_Mo_body_52 (by decide) ?_
            refine x_icmp_ne (tgt := 60) d_Mo_body_53 (by decide) (fun c53 => ?_) (fun c53 => ?_)
            · refine x_iconst (v := 0) d_Mo_body_60 (by decide) ?_
              refine x_istore d_Mo_body_61 rfl ?_
              first | refine x_aload_n d_Mo_body_63 rfl rfl ?_ | refine x_aloadN_n d_Mo_body_63 rfl rfl ?_ | refine x_aloadE_n d_Mo_body_63 rfl rfl ?_ | refine x_aloadO_n d_Mo_body_63 rfl rfl ?_
              refine x_iload_n d_Mo_body_64 rfl rfl ?_
              refine x_iload d_Mo_body_65 rfl ?_
              refine x_if_eq (tgt := 112) d_Mo_body_67 (by decide) (fun c67 => ?_) (fun c67 => ?_)
              · first
                | exact absurd c67 (by decide)
                | refine x_iconst (v := 1) d_Mo_body_112 (by decide) ?_
                  refine x_goto (tgt := 117) d_Mo_body_113 (by decide) ?_
                  first
                  | exact j117 _ _ (by rw [mhv_y hcs0 e200, if_neg c53]; rfl)
                  | exact j117 _ _ (by rw [mhv_y hcs0 e200, if_pos c53, mhc, ← e1, bI_0 c109]; rfl)
                  | exact j117 _ _ (by rw [mhv_y hcs0 e200, if_pos c53, mhc, ← e1, bI_n0 c109]; rfl)
              · first
                | exact absurd rfl c67
                | first | refine x_aload_n d_Mo_body_70 rfl rfl ?_ | refine x_aloadN_n d_Mo_body_70 rfl rfl ?_ | refine x_aloadE_n d_Mo_body_70 rfl rfl ?_ | refine x_aloadO_n d_Mo_body_70 rfl rfl ?_
                  first | refine x_aload_n d_Mo_body_71 rfl rfl ?_ | refine x_aloadN_n d_Mo_body_71 rfl rfl ?_ | refine x_aloadE_n d_Mo_body_71 rfl rfl ?_ | refine x_aloadO_n d_Mo_body_71 rfl rfl ?_
                  refine x_getR d_Mo_body_72 f_Mo_16 rfl (by first | exact hM.1 | exact hM.s rfl | assumption) (hM.r rfl) ?_
                  refine x_iload_n d_Mo_body_75 rfl rfl ?_
                  refine x_zald d_Mo_body_76 (by first | exact hM.1 | exact hM.s rfl | assumption) (vp_in_nI hk8 (by decide)) ?_
                  rw [nI_clamp (by omega), hr394]
                  refine x_if_eq (tgt := 99) d_Mo_body_77 (by decide) (fun c77 => ?_) (fun c77 => ?_)
                  · first | refine x_aload_n d_Mo_body_99 rfl rfl ?_ | refine x_aloadN_n d_Mo_body_99 rfl rfl ?_ | refine x_aloadE_n d_Mo_body_99 rfl rfl ?_ | refine x_aloadO_n d_Mo_body_99 rfl rfl ?_
                    refine x_getR d_Mo_body_100 f_Mo_13 rfl (by first | exact hM.1 | exact hM.s rfl | assumption) (hM.r rfl) ?_
                    refine x_iload_n d_Mo_body_103 rfl rfl ?_
                    refine x_iald d_Mo_body_104 (by first | exact hM.1 | exact hM.s rfl | assumption) (vp_in_nI hk8 (by decide)) ?_
                    rw [nI_clamp (by omega), hpp k hk8, ← sgP_n (pt := kP X) (k := 200 + k) (by omega)]
                    refine x_iconst (v := 1) d_Mo_body_105 (by decide) ?_
                    refine x_callV2 d_Mo_body_106 k_Mo_isTerm l_Mo_149 v_Mo_isTerm rfl s_Mo_isTerm (by first | exact hM.1 | exact hM.s rfl | assumption) RoomE.m (Nat.le_of_ble_eq_true rfl) (c_Mo_isTerm (lim := sgP (kP X) (nI (200 + k))) (fn := true) hM hX.1.1 hX.1.2 hW.1.2 hW.1.1 hpa ?_)
                    have e1 := itm_trm (lim := sgP (kP X) (nI (200 + k))) hW.2.1 hpp (zs := kT X) (m := 1) hW.1.1 (by have := hW.1.2; omega)
                    rw [show nI 1 = (1 : Int32) from rfl] at e1
                    refine x_if_ne (tgt := 116) d_Mo_body_109 (by decide) (fun c109 => ?_) (fun c109 => ?_)
                    · refine x_iconst (v := 0) d_Mo_body_116 (by decide) ?_
                      first
                      | exact j117 _ _ (by rw [mhv_y hcs0 e200, if_neg c53]; rfl)
                      | exact j117 _ _ (by rw [mhv_y hcs0 e200, if_pos c53, mhc, ← e1, bI_0 c109]; rfl)
                      | exact j117 _ _ (by rw [mhv_y hcs0 e200, if_pos c53, mhc, ← e1, bI_n0 c109]; rfl)
                    · refine x_iconst (v := 1) d_Mo_body_112 (by decide) ?_
                      refine x_goto (tgt := 117) d_Mo_body_113 (by decide) ?_
                      first
                      | exact j117 _ _ (by rw [mhv_y hcs0 e200, if_neg c53]; rfl)
                      | exact j117 _ _ (by rw [mhv_y hcs0 e200, if_pos c53, mhc, ← e1, bI_0 c109]; rfl)
                      | exact j117 _ _ (by rw [mhv_y hcs0 e200, if_pos c53, mhc, ← e1, bI_n0 c109]; rfl)
                  · exact absurd rfl c77
            · refine x_iconst (v := 1) d_Mo_body_56 (by decide) ?_
              refine x_goto (tgt := 61) d_Mo_body_57 (by decide) ?_
              refine x_istore d_Mo_body_61 rfl ?_
              first | refine x_aload_n d_Mo_body_63 rfl rfl ?_ | refine x_aloadN_n d_Mo_body_63 rfl rfl ?_ | refine x_aloadE_n d_Mo_body_63 rfl rfl ?_ | refine x_aloadO_n d_Mo_body_63 rfl rfl ?_
              refine x_iload_n d_Mo_body_64 rfl rfl ?_
              refine x_iload d_Mo_body_65 rfl ?_
              refine x_if_eq (tgt := 112) d_Mo_body_67 (by decide) (fun c67 => ?_) (fun c67 => ?_)
              · first
                | exact absurd c67 (by decide)
                | refine x_iconst (v := 1) d_Mo_body_112 (by decide) ?_
                  refine x_goto (tgt := 117) d_Mo_body_113 (by decide) ?_
                  first
                  | exact j117 _ _ (by rw [mhv_y hcs0 e200, if_neg c53]; rfl)
                  | exact j117 _ _ (by rw [mhv_y hcs0 e200, if_pos c53, mhc, ← e1, bI_0 c109]; rfl)
                  | exact j117 _ _ (by rw [mhv_y hcs0 e200, if_pos c53, mhc, ← e1, bI_n0 c109]; rfl)
              · first
                | exact absurd rfl c67
                | first | refine x_aload_n d_Mo_body_70 rfl rfl ?_ | refine x_aloadN_n d_Mo_body_70 rfl rfl ?_ | refine x_aloadE_n d_Mo_body_70 rfl rfl ?_ | refine x_aloadO_n d_Mo_body_70 rfl rfl ?_
                  first | refine x_aload_n d_Mo_body_71 rfl rfl ?_ | refine x_aloadN_n d_Mo_body_71 rfl rfl ?_ | refine x_aloadE_n d_Mo_body_71 rfl rfl ?_ | refine x_aloadO_n d_Mo_body_71 rfl rfl ?_
                  refine x_getR d_Mo_body_72 f_Mo_16 rfl (by first | exact hM.1 | exact hM.s rfl | assumption) (hM.r rfl) ?_
                  refine x_iload_n d_Mo_body_75 rfl rfl ?_
                  refine x_zald d_Mo_body_76 (by first | exact hM.1 | exact hM.s rfl | assumption) (vp_in_nI hk8 (by decide)) ?_
                  rw [nI_clamp (by omega), hr394]
                  refine x_if_eq (tgt := 99) d_Mo_body_77 (by decide) (fun c77 => ?_) (fun c77 => ?_)
                  · first | refine x_aload_n d_Mo_body_99 rfl rfl ?_ | refine x_aloadN_n d_Mo_body_99 rfl rfl ?_ | refine x_aloadE_n d_Mo_body_99 rfl rfl ?_ | refine x_aloadO_n d_Mo_body_99 rfl rfl ?_
                    refine x_getR d_Mo_body_100 f_Mo_13 rfl (by first | exact hM.1 | exact hM.s rfl | assumption) (hM.r rfl) ?_
                    refine x_iload_n d_Mo_body_103 rfl rfl ?_
                    refine x_iald d_Mo_body_104 (by first | exact hM.1 | exact hM.s rfl | assumption) (vp_in_nI hk8 (by decide)) ?_
                    rw [nI_clamp (by omega), hpp k hk8, ← sgP_n (pt := kP X) (k := 200 + k) (by omega)]
                    refine x_iconst (v := 1) d_Mo_body_105 (by decide) ?_
                    refine x_callV2 d_Mo_body_106 k_Mo_isTerm l_Mo_149 v_Mo_isTerm rfl s_Mo_isTerm (by first | exact hM.1 | exact hM.s rfl | assumption) RoomE.m (Nat.le_of_ble_eq_true rfl) (c_Mo_isTerm (lim := sgP (kP X) (nI (200 + k))) (fn := true) hM hX.1.1 hX.1.2 hW.1.2 hW.1.1 hpa ?_)
                    have e1 := itm_trm (lim := sgP (kP X) (nI (200 + k))) hW.2.1 hpp (zs := kT X) (m := 1) hW.1.1 (by have := hW.1.2; omega)
                    rw [show nI 1 = (1 : Int32) from rfl] at e1
                    refine x_if_ne (tgt := 116) d_Mo_body_109 (by decide) (fun c109 => ?_) (fun c109 => ?_)
                    · refine x_iconst (v := 0) d_Mo_body_116 (by decide) ?_
                      first
                      | exact j117 _ _ (by rw [mhv_y hcs0 e200, if_neg c53]; rfl)
                      | exact j117 _ _ (by rw [mhv_y hcs0 e200, if_pos c53, mhc, ← e1, bI_0 c109]; rfl)
                      | exact j117 _ _ (by rw [mhv_y hcs0 e200, if_pos c53, mhc, ← e1, bI_n0 c109]; rfl)
                    · refine x_iconst (v := 1) d_Mo_body_112 (by decide) ?_
                      refine x_goto (tgt := 117) d_Mo_body_113 (by decide) ?_
                      first
                      | exact j117 _ _ (by rw [mhv_y hcs0 e200, if_neg c53]; rfl)
                      | exact j117 _ _ (by rw [mhv_y hcs0 e200, if_pos c53, mhc, ← e1, bI_0 c109]; rfl)
                      | exact j117 _ _ (by rw [mhv_y hcs0 e200, if_pos c53, mhc, ← e1, bI_n0 c109]; rfl)
                  · exact absurd rfl c77
          · exact absurd rfl c35
      · exact absurd c16 hp0
set_option maxRecDepth 10000 in
set_option maxHeartbeats 1000000 in
theorem c_Mo_body {G : Ctx} {d : Nat} {Γ : List Sh} {σ : Mem} {Q : Option Value → List Sh → Mem → Prop} {X : CS} {f x : Int32} (hM : MoS Γ σ) (hX : isMC σ X) (hW : csW X) (hE1 : dcl (kP X) f = false → Q none Γ (wI σ 391 0 1)) (hE2 : dcl (kP X) f = true → mhv (kP X) (kC X) f x (kT X) = false → Q none Γ (wI σ 391 0 2)) (hQ : dcl (kP X) f = true → mhv (kP X) (kC X) f x (kT X) = true → ∀ σ', isMC σ' (csBd X f x) → σ'.1 391 11 = 0 → σ'.1 391 0 = 0 → FrM σ σ' → Q none Γ σ') : Ct G M_Mo_body (d + 3) 0 0 [rf G 391, .int f, .int x] Γ σ Q := by
  cases hN : dcl (kP X) f with
  | false => exact c_Mo_body_n hM hX hW hE1 hE2 hQ hN
  | true =>
    cases hcs : sgC (kC X) (200 + f) with
    | true => exact c_Mo_body_c hM hX hW hE1 hE2 hQ hN hcs
    | false => exact c_Mo_body_p hM hX hW hE1 hE2 hQ hN hcs
