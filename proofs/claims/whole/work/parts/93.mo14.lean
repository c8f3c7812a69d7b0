/-! SuperDriverModel: isCased, nextCall, stand -/
def cOK (σ : Mem) (cs : Nat → Bool) (k : Nat) : Prop := (200 ≤ k ∧ k < 208 ∧ σ.1 394 (k - 200) = bI (cs k)) ∨ (300 ≤ k ∧ k < 348 ∧ decide (σ.1 400 (k - 300) = 4) = cs k) ∨ (k = 400 ∧ cs k = false)
def sOK (σ : Mem) (pt : Nat → Int32) (cs : Nat → Bool) (s : Int32) : Prop := ∃ k, s = nI k ∧ okk k ∧ mPk σ k = sgP pt s ∧ (200 ≤ k → cOK σ cs k)
/-- the row, a term -/
def rwO (σ : Mem) (pt : Nat → Int32) (cs : Nat → Bool) (zs : List Int32) : Prop := σ.1 391 30 = nI zs.length ∧ seg σ 415 0 zs ∧ zs.length ≤ 1000 ∧ full (nP (sgP pt)) 1 zs = true ∧ ∀ s ∈ zs, sOK σ pt cs s
theorem rwO.pA {σ : Mem} {pt : Nat → Int32} {cs : Nat → Bool} {zs : List Int32} (h : rwO σ pt cs zs) (hS : SgOK pt cs) : pAll σ (nP (sgP pt)) zs := fun s hs => by
  obtain ⟨k, e, ok, hp, _⟩ := h.2.2.2.2 s hs
  have := hS.1.le s
  exact ⟨k, e, ok, by rw [hp]; exact this.2, this.1⟩
theorem sOK.fr {σ σ' : Mem} {pt : Nat → Int32} {cs : Nat → Bool} {s : Int32} {S : List Nat} (h : sOK σ pt cs s) (hf : FrI S σ σ') (h1 : 393 ∉ S) (h2 : 412 ∉ S) (h3 : 394 ∉ S) (h4 : 400 ∉ S) : sOK σ' pt cs s := by
  obtain ⟨k, e, ok, hp, hc⟩ := h
  refine ⟨k, e, ok, ?_, fun z => ?_⟩
  · unfold mPk at hp ⊢
    rw [hf.2 _ h1, hf.2 _ h2]
    exact hp
  · have := hc z
    unfold cOK at this ⊢
    rw [hf.2 _ h3, hf.2 _ h4]
    exact this
theorem rwO.fr {σ σ' : Mem} {pt : Nat → Int32} {cs : Nat → Bool} {zs : List Int32} {S : List Nat} (h : rwO σ pt cs zs) (hf : FrI S σ σ') (h1 : 393 ∉ S) (h2 : 412 ∉ S) (h3 : 394 ∉ S) (h4 : 400 ∉ S) (h5 : 391 ∉ S) (h6 : 415 ∉ S) : rwO σ' pt cs zs := ⟨by rw [hf.2 _ h5]; exact h.1, h.2.1.fr hf h6, h.2.2.1, h.2.2.2.1, fun s hs => (h.2.2.2.2 s hs).fr hf h1 h2 h3 h4⟩
theorem cs_nx {pt : Nat → Int32} {cs : Nat → Bool} {zs : List Int32} {i : Nat} (hS : SgOK pt cs) (hf : full (nP (sgP pt)) 1 zs = true) (hi : i < zs.length) (hc : sgC cs (zs.getD i (-1)) = true) : i + 1 < zs.length := by
  obtain ⟨m, hm⟩ := full_parts hf hi
  have h1 := hS.2 _ hc
  have := full_le hm
  rw [List.length_drop] at this
  omega
set_option maxRecDepth 10000 in
set_option maxHeartbeats 1000000 in
theorem c_Mo_isCased {G : Ctx} {d : Nat} {Γ : List Sh} {σ : Mem} {Q : Option Value → List Sh → Mem → Prop} {k : Nat} {cs : Nat → Bool} (hM : MoS Γ σ) (hk : cOK σ cs k) (hQ : Q (some (.int (bI (cs k)))) Γ σ) : Ct G M_Mo_isCased d 0 0 [rf G 391, .int (nI k)] Γ σ Q := by
  have hkl : k ≤ 400 := by rcases hk with z | z | z <;> omega
  refine Ct.of (lv := [some (rf G 391), some (.int (nI k))]) (ll := []) rfl rfl (EN.cat (n := 0) ⟨rfl, rfl, trivial⟩ (Nat.le_of_ble_eq_true rfl)) ?_
  refine x_iload_n d_Mo_isCased_0 rfl rfl ?_
  refine x_sipush (v := 400) d_Mo_isCased_1 (by decide) ?_
  refine x_icmp_lt (tgt := 9) d_Mo_isCased_4 (by decide) (fun c4 => ?_) (fun c4 => ?_)
  · have h4 : k < 400 := (nI_ltI (by omega) (by decide)).mp (show nI k < nI 400 from c4)
    refine x_iload_n d_Mo_isCased_9 rfl rfl ?_
    refine x_sipush (v := 300) d_Mo_isCased_10 (by decide) ?_
    refine x_icmp_ge (tgt := 29) d_Mo_isCased_13 (by decide) (fun c13 => ?_) (fun c13 => ?_)
    · have h13 : 300 ≤ k := (nI_leI (by decide) (by omega)).mp (show nI 300 ≤ nI k from c13)
      obtain ⟨q1, q2, q3⟩ : 300 ≤ k ∧ k < 348 ∧ decide (σ.1 400 (k - 300) = 4) = cs k := by
        rcases hk with z | z | z
        · omega
        · exact z
        · omega
      first | refine x_aload_n d_Mo_isCased_29 rfl rfl ?_ | refine x_aloadN_n d_Mo_isCased_29 rfl rfl ?_ | refine x_aloadE_n d_Mo_isCased_29 rfl rfl ?_ | refine x_aloadO_n d_Mo_isCased_29 rfl rfl ?_
      refine x_getR d_Mo_isCased_30 f_Mo_35 rfl (by first | exact hM.1 | exact hM.s rfl | assumption) (hM.r rfl) ?_
      refine x_iload_n d_Mo_isCased_33 rfl rfl ?_
      refine x_sipush (v := 300) d_Mo_isCased_34 (by decide) ?_
      refine x_isub d_Mo_isCased_37 ?_
      rw [nI_sub300 (by omega)]
      refine x_iald d_Mo_isCased_38 (by first | exact hM.1 | exact hM.s rfl | assumption) (vp_in_nI (show k - 300 < 48 by omega) (by decide)) ?_
      rw [nI_clamp (by omega)]
      refine x_iconst (v := 4) d_Mo_isCased_39 (by decide) ?_
      refine x_icmp_ne (tgt := 47) d_Mo_isCased_40 (by decide) (fun c40 => ?_) (fun c40 => ?_)
      · refine x_iconst (v := 0) d_Mo_isCased_47 (by decide) ?_
        first
        | exact x_ireturn d_Mo_isCased_48 rfl (by rw [nI_clamp (by omega), q3]; cases cs k <;> rfl) (by rw [nI_clamp (by omega), q3]; exact hQ)
        | exact x_ireturn d_Mo_isCased_48 rfl (by first | rfl | decide) (by
            first
            | (rw [decide_eq_false c40] at q3; rw [← q3] at hQ; exact hQ)
            | (rw [decide_eq_true c40] at q3; rw [← q3] at hQ; exact hQ))
      · refine x_iconst (v := 1) d_Mo_isCased_43 (by decide) ?_
        refine x_goto (tgt := 48) d_Mo_isCased_44 (by decide) ?_
        first
        | exact x_ireturn d_Mo_isCased_48 rfl (by rw [nI_clamp (by omega), q3]; cases cs k <;> rfl) (by rw [nI_clamp (by omega), q3]; exact hQ)
        | exact x_ireturn d_Mo_isCased_48 rfl (by first | rfl | decide) (by
            first
            | (rw [decide_eq_false c40] at q3; rw [← q3] at hQ; exact hQ)
            | (rw [decide_eq_true c40] at q3; rw [← q3] at hQ; exact hQ))
    · have h13 : k < 300 := Nat.not_le.mp fun z => c13 (show nI 300 ≤ nI k from nI_le z (by omega))
      obtain ⟨q1, q2, q3⟩ : 200 ≤ k ∧ k < 208 ∧ σ.1 394 (k - 200) = bI (cs k) := by
        rcases hk with z | z | z
        · exact z
        · omega
        · omega
      first | refine x_aload_n d_Mo_isCased_16 rfl rfl ?_ | refine x_aloadN_n d_Mo_isCased_16 rfl rfl ?_ | refine x_aloadE_n d_Mo_isCased_16 rfl rfl ?_ | refine x_aloadO_n d_Mo_isCased_16 rfl rfl ?_
      refine x_getR d_Mo_isCased_17 f_Mo_16 rfl (by first | exact hM.1 | exact hM.s rfl | assumption) (hM.r rfl) ?_
      refine x_iload_n d_Mo_isCased_20 rfl rfl ?_
      refine x_sipush (v := 200) d_Mo_isCased_21 (by decide) ?_
      refine x_isub d_Mo_isCased_24 ?_
      rw [nI_sub200 (by omega)]
      refine x_zald d_Mo_isCased_25 (by first | exact hM.1 | exact hM.s rfl | assumption) (vp_in_nI (show k - 200 < 8 by omega) (by decide)) ?_
      refine x_goto (tgt := 48) d_Mo_isCased_26 (by decide) ?_
      first
      | exact x_ireturn d_Mo_isCased_48 rfl (by rw [nI_clamp (by omega), q3]; cases cs k <;> rfl) (by rw [nI_clamp (by omega), q3]; exact hQ)
      | exact x_ireturn d_Mo_isCased_48 rfl (by first | rfl | decide) (by
          first
          | (rw [decide_eq_false c40] at q3; rw [← q3] at hQ; exact hQ)
          | (rw [decide_eq_true c40] at q3; rw [← q3] at hQ; exact hQ))
  · refine x_iconst (v := 0) d_Mo_isCased_7 (by decide) ?_
    exact x_ireturn d_Mo_isCased_8 rfl (by first | rfl | decide) (by
      have h4 : ¬ k < 400 := fun z => c4 (show nI k < nI 400 from nI_lt z (by decide))
      rcases hk with z | z | z
      · omega
      · omega
      · rw [z.2] at hQ; exact hQ)
theorem nxc_c {cs : Int32 → Bool} {x : Int32} {l : List Int32} : nxc cs (x :: l) = if (isC x && !(cs x && isC (l.getD 0 (-1)))) = true then some 0 else (nxc cs l).map (· + 1) := rfl
theorem nxc_d {cs : Int32 → Bool} {zs : List Int32} {i : Nat} (hi : i < zs.length) : nxc cs (zs.drop i) = if (isC (zs.getD i (-1)) && !(cs (zs.getD i (-1)) && isC (zs.getD (i + 1) (-1)))) = true then some 0 else (nxc cs (zs.drop (i + 1))).map (· + 1) := by
  rw [drop_cons hi, nxc_c, getD_drop]
set_option maxRecDepth 10000 in
set_option maxHeartbeats 1000000 in
theorem c_Mo_nextCall {G : Ctx} {d : Nat} {Γ : List Sh} {σ : Mem} {Q : Option Value → List Sh → Mem → Prop} {pt : Nat → Int32} {cs : Nat → Bool} {zs : List Int32} (hM : MoS Γ σ) (hS : SgOK pt cs) (hR : rwO σ pt cs zs) (hQ : Q (some (.int (oI (nxc (sgC cs) zs)))) Γ σ) : Ct G M_Mo_nextCall (d + 1) 0 0 [rf G 391] Γ σ Q := by
  obtain ⟨hsz, hs, hl, hfu, hal⟩ := id hR
  generalize hRR : nxc (sgC cs) zs = R at hQ
  have l2 : ∀ (f i : Nat), i < zs.length → zs.length < i + f → isC (zs.getD i (-1)) = true → R = (nxc (sgC cs) (zs.drop i)).map (· + i) → Wq G M_Mo_nextCall (Em G (d + 1) 0 0 Q) 0 0 38 [some (rf G 391), some (.int (nI i))] [] [] Γ σ := by
    intro f
    induction f with
    | zero => intro i hi hk; omega
    | succ f ih =>
    intro i hin hk hC hr
    obtain ⟨k, ek, ok, _, hcc⟩ := hal _ (getD_mem hin)
    have hkl := ok.le
    have hk2 : 200 ≤ k := by rw [ek, isC_n (by omega)] at hC; exact of_decide_eq_true hC
    have ecs : sgC cs (zs.getD i (-1)) = cs k := by rw [ek, sgC_n (by omega)]
    first | refine x_aload_n d_Mo_nextCall_38 rfl rfl ?_ | refine x_aloadN_n d_Mo_nextCall_38 rfl rfl ?_ | refine x_aloadE_n d_Mo_nextCall_38 rfl rfl ?_ | refine x_aloadO_n d_Mo_nextCall_38 rfl rfl ?_
    first | refine x_aload_n d_Mo_nextCall_39 rfl rfl ?_ | refine x_aloadN_n d_Mo_nextCall_39 rfl rfl ?_ | refine x_aloadE_n d_Mo_nextCall_39 rfl rfl ?_ | refine x_aloadO_n d_Mo_nextCall_39 rfl rfl ?_
    refine x_getR d_Mo_nextCall_40 f_Mo_80 rfl (by first | exact hM.1 | exact hM.s rfl | assumption) (hM.r rfl) ?_
    refine x_iload_n d_Mo_nextCall_43 rfl rfl ?_
    refine x_iald d_Mo_nextCall_44 (by first | exact hM.1 | exact hM.s rfl | assumption) (vp_in_nI (show i < 20400 by omega) (by decide)) ?_
    rw [nI_clamp (by omega), show σ.1 415 i = zs.getD i (-1) by have := hs i hin; rw [Nat.zero_add] at this; exact this, ek]
    refine x_callV1 d_Mo_nextCall_45 k_Mo_isCased l_Mo_160 v_Mo_isCased rfl s_Mo_isCased (by first | exact hM.1 | exact hM.s rfl | assumption) RoomE.m (Nat.le_of_ble_eq_true rfl) (c_Mo_isCased hM (hcc hk2) ?_)
    refine x_if_eq (tgt := 71) d_Mo_nextCall_48 (by decide) (fun c48 => ?_) (fun c48 => ?_)
    · refine x_iload_n d_Mo_nextCall_71 rfl rfl ?_
      exact x_ireturn d_Mo_nextCall_72 rfl (by first | rfl | decide) (by
        have hR : R = some i := by
          rw [hr, nxc_d hin, hC]
          first
          | (rw [show sgC cs (zs.getD i (-1)) = false by rw [ecs]; exact bI_0 c48]
             simp)
          | (rw [show isC (zs.getD (i + 1) (-1)) = false by
               rw [ek1, isC_n (by omega)]
               exact decide_eq_false (by have := (nI_ltI (by omega) (by decide)).mp (show nI k1 < nI 200 from c62); omega)]
             simp)
        rw [hR] at hQ
        exact hQ)
    · have hcs : sgC cs (zs.getD i (-1)) = true := by rw [ecs]; exact bI_n0 c48
      have hn1 := cs_nx hS hfu hin hcs
      obtain ⟨k1, ek1, ok1, _, _⟩ := hal _ (getD_mem hn1)
      have hk1l := ok1.le
      first | refine x_aload_n d_Mo_nextCall_51 rfl rfl ?_ | refine x_aloadN_n d_Mo_nextCall_51 rfl rfl ?_ | refine x_aloadE_n d_Mo_nextCall_51 rfl rfl ?_ | refine x_aloadO_n d_Mo_nextCall_51 rfl rfl ?_
      refine x_getR d_Mo_nextCall_52 f_Mo_80 rfl (by first | exact hM.1 | exact hM.s rfl | assumption) (hM.r rfl) ?_
      refine x_iload_n d_Mo_nextCall_55 rfl rfl ?_
      refine x_iconst (v := 1) d_Mo_nextCall_56 (by decide) ?_
      refine x_iadd d_Mo_nextCall_57 ?_
      rw [nI_1]
      refine x_iald d_Mo_nextCall_58 (by first | exact hM.1 | exact hM.s rfl | assumption) (vp_in_nI (show i + 1 < 20400 by omega) (by decide)) ?_
      rw [nI_clamp (by omega), show σ.1 415 (i + 1) = zs.getD (i + 1) (-1) by have := hs (i + 1) hn1; rw [Nat.zero_add] at this; exact this, ek1]
      refine x_sipush (v := 200) d_Mo_nextCall_59 (by decide) ?_
      refine x_icmp_lt (tgt := 71) d_Mo_nextCall_62 (by decide) (fun c62 => ?_) (fun c62 => ?_)
      · refine x_iload_n d_Mo_nextCall_71 rfl rfl ?_
        exact x_ireturn d_Mo_nextCall_72 rfl (by first | rfl | decide) (by
          have hR : R = some i := by
            rw [hr, nxc_d hin, hC]
            first
            | (rw [show sgC cs (zs.getD i (-1)) = false by rw [ecs]; exact bI_0 c48]
               simp)
            | (rw [show isC (zs.getD (i + 1) (-1)) = false by
                 rw [ek1, isC_n (by omega)]
                 exact decide_eq_false (by have := (nI_ltI (by omega) (by decide)).mp (show nI k1 < nI 200 from c62); omega)]
               simp)
          rw [hR] at hQ
          exact hQ)
      · refine x_iinc (v := nI (i + 1)) d_Mo_nextCall_65 rfl (nI_1 i) rfl ?_
        refine x_goto (tgt := 38) d_Mo_nextCall_68 (by decide) ?_
        have hC1 : isC (zs.getD (i + 1) (-1)) = true := by
          rw [ek1, isC_n (by omega)]
          exact decide_eq_true (Nat.not_lt.mp fun z => c62 (show nI k1 < nI 200 from nI_lt z (by decide)))
        exact Wq.fg (ih (i + 1) hn1 (by omega) hC1 (by
          rw [hr, nxc_d hin, hC, hcs, hC1]
          rw [if_neg (by decide), omap])) ⟨rfl, rfl, trivial⟩
  have l1 : ∀ (f i : Nat), i ≤ zs.length → zs.length < i + f → R = (nxc (sgC cs) (zs.drop i)).map (· + i) → Wq G M_Mo_nextCall (Em G (d + 1) 0 0 Q) 0 0 2 [some (rf G 391), some (.int (nI i))] [] [] Γ σ := by
    intro f
    induction f with
    | zero => intro i hi hk; omega
    | succ f ih =>
    intro i hi hk hr
    refine x_iload_n d_Mo_nextCall_2 rfl rfl ?_
    first | refine x_aload_n d_Mo_nextCall_3 rfl rfl ?_ | refine x_aloadN_n d_Mo_nextCall_3 rfl rfl ?_ | refine x_aloadE_n d_Mo_nextCall_3 rfl rfl ?_ | refine x_aloadO_n d_Mo_nextCall_3 rfl rfl ?_
    refine x_getI d_Mo_nextCall_4 f_Mo_157 rfl (by first | exact hM.1 | exact hM.s rfl | assumption) ?_
    rw [hsz]
    refine x_icmp_ge (tgt := 28) d_Mo_nextCall_7 (by decide) (fun c7 => ?_) (fun c7 => ?_)
    · refine x_iload_n d_Mo_nextCall_28 rfl rfl ?_
      first | refine x_aload_n d_Mo_nextCall_29 rfl rfl ?_ | refine x_aloadN_n d_Mo_nextCall_29 rfl rfl ?_ | refine x_aloadE_n d_Mo_nextCall_29 rfl rfl ?_ | refine x_aloadO_n d_Mo_nextCall_29 rfl rfl ?_
      refine x_getI d_Mo_nextCall_30 f_Mo_157 rfl (by first | exact hM.1 | exact hM.s rfl | assumption) ?_
      rw [hsz]
      refine x_icmp_ne (tgt := 38) d_Mo_nextCall_33 (by decide) (fun c33 => ?_) (fun c33 => ?_)
      · first
        | exact absurd ((nI_leI (by omega) (by omega)).mp c7) (by
            have : i ≠ zs.length := fun z => c33 (by rw [z])
            omega)
        | (have hC : isC (zs.getD i (-1)) = true := by
             rw [ek, isC_n (by omega)]
             exact decide_eq_true ((nI_leI (by decide) (by omega)).mp (show nI 200 ≤ nI k from c19))
           exact Wq.fg (l2 (zs.length + 1) i hin (by omega) hC hr) ⟨rfl, rfl, trivial⟩)
      · refine x_iconst (v := -1) d_Mo_nextCall_36 (by decide) ?_
        first
        | exact x_ireturn d_Mo_nextCall_37 rfl (by first | rfl | decide) (by
            have e : i = zs.length := by have := (nI_leI (by omega) (by omega)).mp c7; omega
            rw [e, List.drop_length] at hr
            rw [hr] at hQ
            exact hQ)
        | (exfalso
           have e : i = zs.length := nI_inj c33 (by omega) (by omega)
           omega)
    · have hin : i < zs.length := Nat.not_le.mp fun z => c7 (nI_le z (by omega))
      obtain ⟨k, ek, ok, _, hcc⟩ := hal _ (getD_mem hin)
      have hkl := ok.le
      first | refine x_aload_n d_Mo_nextCall_10 rfl rfl ?_ | refine x_aloadN_n d_Mo_nextCall_10 rfl rfl ?_ | refine x_aloadE_n d_Mo_nextCall_10 rfl rfl ?_ | refine x_aloadO_n d_Mo_nextCall_10 rfl rfl ?_
      refine x_getR d_Mo_nextCall_11 f_Mo_80 rfl (by first | exact hM.1 | exact hM.s rfl | assumption) (hM.r rfl) ?_
      refine x_iload_n d_Mo_nextCall_14 rfl rfl ?_
      refine x_iald d_Mo_nextCall_15 (by first | exact hM.1 | exact hM.s rfl | assumption) (vp_in_nI (show i < 20400 by omega) (by decide)) ?_
      rw [nI_clamp (by omega), show σ.1 415 i = zs.getD i (-1) by have := hs i hin; rw [Nat.zero_add] at this; exact this, ek]
      refine x_sipush (v := 200) d_Mo_nextCall_16 (by decide) ?_
      refine x_icmp_ge (tgt := 28) d_Mo_nextCall_19 (by decide) (fun c19 => ?_) (fun c19 => ?_)
      · refine x_iload_n d_Mo_nextCall_28 rfl rfl ?_
        first | refine x_aload_n d_Mo_nextCall_29 rfl rfl ?_ | refine x_aloadN_n d_Mo_nextCall_29 rfl rfl ?_ | refine x_aloadE_n d_Mo_nextCall_29 rfl rfl ?_ | refine x_aloadO_n d_Mo_nextCall_29 rfl rfl ?_
        refine x_getI d_Mo_nextCall_30 f_Mo_157 rfl (by first | exact hM.1 | exact hM.s rfl | assumption) ?_
        rw [hsz]
        refine x_icmp_ne (tgt := 38) d_Mo_nextCall_33 (by decide) (fun c33 => ?_) (fun c33 => ?_)
        · first
          | exact absurd ((nI_leI (by omega) (by omega)).mp c7) (by
              have : i ≠ zs.length := fun z => c33 (by rw [z])
              omega)
          | (have hC : isC (zs.getD i (-1)) = true := by
               rw [ek, isC_n (by omega)]
               exact decide_eq_true ((nI_leI (by decide) (by omega)).mp (show nI 200 ≤ nI k from c19))
             exact Wq.fg (l2 (zs.length + 1) i hin (by omega) hC hr) ⟨rfl, rfl, trivial⟩)
        · refine x_iconst (v := -1) d_Mo_nextCall_36 (by decide) ?_
          first
          | exact x_ireturn d_Mo_nextCall_37 rfl (by first | rfl | decide) (by
              have e : i = zs.length := by have := (nI_leI (by omega) (by omega)).mp c7; omega
              rw [e, List.drop_length] at hr
              rw [hr] at hQ
              exact hQ)
          | (exfalso
             have e : i = zs.length := nI_inj c33 (by omega) (by omega)
             omega)
      · refine x_iinc (v := nI (i + 1)) d_Mo_nextCall_22 rfl (nI_1 i) rfl ?_
        refine x_goto (tgt := 2) d_Mo_nextCall_25 (by decide) ?_
        exact Wq.fg (ih (i + 1) hin (by omega) (by
          have hC : isC (zs.getD i (-1)) = false := by
            rw [ek, isC_n (by omega)]
            exact decide_eq_false (fun z => c19 (show nI 200 ≤ nI k from nI_le z (by omega)))
          rw [hr, nxc_d hin, hC, Bool.false_and, if_neg (by decide), omap])) ⟨rfl, rfl, trivial⟩
  refine Ct.of (lv := [some (rf G 391), none]) (ll := []) rfl rfl (EN.cat (n := 1) ⟨rfl, trivial⟩ (Nat.le_of_ble_eq_true rfl)) ?_
  refine x_iconst (v := 0) d_Mo_nextCall_0 (by decide) ?_
  refine x_istore_n d_Mo_nextCall_1 rfl rfl ?_
  exact Wq.fg (l1 (zs.length + 1) 0 (by omega) (by omega) (by rw [List.drop_zero, hRR]; cases R <;> rfl)) ⟨rfl, by rw [nI_0], trivial⟩
theorem c_Mo_end0 {G : Ctx} {d : Nat} {Γ : List Sh} {σ : Mem} {Q : Option Value → List Sh → Mem → Prop} {c N i m : Nat} {zs : List Int32} {q : Int32 → Nat} (hM : MoS Γ σ) (hs : Γ[c]? = some (1, N)) (hseg : seg σ c 0 zs) (hN : zs.length ≤ N) (hN2 : N ≤ 30000) (hp : pAll σ q zs) (hfl : full q (m + 1) (zs.drop i) = true) (hQ : Q (some (.int (nI (i + tk q 1 (zs.drop i))))) Γ σ) : Ct G M_Mo_end (d + 2) 0 0 [rf G 391, rf G c, .int (nI i)] Γ σ Q := by
  have h := c_Mo_end (G := G) (d := d) (Q := Q) (p0 := 0) (i := i) (m := m) hM hs hseg (by omega) hN2 hp hfl (by rw [Nat.zero_add]; exact hQ)
  rw [Nat.zero_add] at h
  exact h
set_option maxRecDepth 10000 in
set_option maxHeartbeats 1000000 in
theorem c_Mo_stand {G : Ctx} {d : Nat} {Γ : List Sh} {σ : Mem} {Q : Option Value → List Sh → Mem → Prop} {pt : Nat → Int32} {cs : Nat → Bool} {zs : List Int32} {v i m : Nat} (hM : MoS Γ σ) (hS : SgOK pt cs) (hR : rwO σ pt cs zs) (hv : v < 100) (hf : full (nP (sgP pt)) (m + 1) (zs.drop i) = true) (hQ : Q (some (.int (nI (i + tk (nP (sgP pt)) 1 (zs.drop i))))) Γ (wI (wI σ 417 v (nI i)) 418 v (nI (i + tk (nP (sgP pt)) 1 (zs.drop i))))) : Ct G M_Mo_stand (d + 3) 0 0 [rf G 391, .int (nI v), .int (nI i)] Γ σ Q := by
  refine Ct.of (lv := [some (rf G 391), some (.int (nI v)), some (.int (nI i))]) (ll := []) rfl rfl (EN.cat (n := 0) ⟨rfl, rfl, rfl, trivial⟩ (Nat.le_of_ble_eq_true rfl)) ?_
  first | refine x_aload_n d_Mo_stand_0 rfl rfl ?_ | refine x_aloadN_n d_Mo_stand_0 rfl rfl ?_ | refine x_aloadE_n d_Mo_stand_0 rfl rfl ?_ | refine x_aloadO_n d_Mo_stand_0 rfl rfl ?_
  refine x_getR d_Mo_stand_1 f_Mo_86 rfl (by first | exact hM.1 | exact hM.s rfl | assumption) (hM.r rfl) ?_
  refine x_iload_n d_Mo_stand_4 rfl rfl ?_
  refine x_iload_n d_Mo_stand_5 rfl rfl ?_
  refine x_iast d_Mo_stand_6 (by first | exact hM.1 | exact hM.s rfl | assumption) (vp_in_nI hv (by decide)) ?_
  rw [nI_clamp (by omega)]
  have fr1 : FrI [417] σ (wI σ 417 v (nI i)) := FrI.rf.put (by simp)
  have hM2 := hM.fr fr1
  have hR2 := hR.fr fr1 (by simp) (by simp) (by simp) (by simp) (by simp) (by simp)
  first | refine x_aload_n d_Mo_stand_7 rfl rfl ?_ | refine x_aloadN_n d_Mo_stand_7 rfl rfl ?_ | refine x_aloadE_n d_Mo_stand_7 rfl rfl ?_ | refine x_aloadO_n d_Mo_stand_7 rfl rfl ?_
  refine x_getR d_Mo_stand_8 f_Mo_89 rfl (by first | exact hM.1 | exact hM.s rfl | assumption) (hM.r rfl) ?_
  refine x_iload_n d_Mo_stand_11 rfl rfl ?_
  first | refine x_aload_n d_Mo_stand_12 rfl rfl ?_ | refine x_aloadN_n d_Mo_stand_12 rfl rfl ?_ | refine x_aloadE_n d_Mo_stand_12 rfl rfl ?_ | refine x_aloadO_n d_Mo_stand_12 rfl rfl ?_
  first | refine x_aload_n d_Mo_stand_13 rfl rfl ?_ | refine x_aloadN_n d_Mo_stand_13 rfl rfl ?_ | refine x_aloadE_n d_Mo_stand_13 rfl rfl ?_ | refine x_aloadO_n d_Mo_stand_13 rfl rfl ?_
  refine x_getR d_Mo_stand_14 f_Mo_80 rfl (by first | exact hM.1 | exact hM.s rfl | assumption) (hM.r rfl) ?_
  refine x_iload_n d_Mo_stand_17 rfl rfl ?_
  refine x_callV2 d_Mo_stand_18 k_Mo_end l_Mo_164 v_Mo_end rfl s_Mo_end (by first | exact hM.1 | exact hM.s rfl | assumption) RoomE.m (Nat.le_of_ble_eq_true rfl) (c_Mo_end0 (i := i) (m := m) hM2 (hM.s rfl) hR2.2.1 (by have := hR.2.2.1; omega) (by decide) (hR2.pA hS) hf ?_)
  refine x_iast d_Mo_stand_21 (by first | exact hM.1 | exact hM.s rfl | assumption) (vp_in_nI hv (by decide)) ?_
  rw [nI_clamp (by omega)]
  first | refine x_aload_n d_Mo_stand_22 rfl rfl ?_ | refine x_aloadN_n d_Mo_stand_22 rfl rfl ?_ | refine x_aloadE_n d_Mo_stand_22 rfl rfl ?_ | refine x_aloadO_n d_Mo_stand_22 rfl rfl ?_
  refine x_getR d_Mo_stand_23 f_Mo_89 rfl (by first | exact hM.1 | exact hM.s rfl | assumption) (hM.r rfl) ?_
  refine x_iload_n d_Mo_stand_26 rfl rfl ?_
  refine x_iald d_Mo_stand_27 (by first | exact hM.1 | exact hM.s rfl | assumption) (vp_in_nI hv (by decide)) ?_
  exact x_ireturn d_Mo_stand_28 rfl (by first | rfl | decide) (by rw [nI_clamp (by omega), wI_s]; exact hQ)
