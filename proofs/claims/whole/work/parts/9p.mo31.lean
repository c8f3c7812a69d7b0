/-! SuperDriverModel: unfold for the residual program -/
def pvR (ins b w : Nat) (l : List Int32) (j : Nat) : Nat := if j < ins then w + j else (l.getD (b + j - ins) (-1)).toNatClampNeg
theorem uS_cg {P : Int32 → Int32} {zs : List Int32} {f g : Nat → Int32} {p0 : Nat} {s : Int32} : ∀ {n : Nat}, (∀ j, j < n → f j = g j) → uS P zs f p0 n s = uS P zs g p0 n s
  | 0, _ => rfl
  | n + 1, h => by
    unfold uS
    rw [h n (by omega), uS_cg (fun j hj => h j (by omega))]
theorem pT_F {T : TS} {m : Nat} (h : fnT T m = true) : pT T m = pF T m := by unfold pT; rw [if_pos h]
/-- all about a residual call that unfolds -/
theorem rdata {pt0 : Nat → Int32} {cs0 : Nat → Bool} {σ : Mem} {X : CS} {T : TS} {zs : List Int32} {a q : Nat} (hC : cRr σ X pt0 cs0 T zs a) (hq : rNode (kR X) (zs.getD a (-1)) (caf (kC X) zs a) = some q) :
    ∃ m ins w, m < tN T ∧ fnT T m = true ∧ zs.getD a (-1) = nI (300 + m) ∧ (pF T m).length ≤ 40 ∧ (kC X (300 + m) = true → 1 ≤ (pF T m).length) ∧ (kC X (300 + m) = true → ∃ c, c < 6 ∧ zs.getD (a + 1) (-1) = nI (100 + c) ∧ ins = qK c ∧ a + 1 < zs.length) ∧ (kC X (300 + m) = false → ins = 0) ∧ up0 (kC X) zs a = a + (if kC X (300 + m) = true then 2 else 1) ∧ ucN (kP X) (kC X) zs a = ins + (pF T m).length - b1 (kC X (300 + m)) ∧ q < tN T ∧ kd T q ≠ 0 ∧ (0 < ins → σ.1 409 q = nI w) ∧ (∀ j, j < ucN (kP X) (kC X) zs a → rVar (kR X) (zs.getD a (-1)) (caf (kC X) zs a) (nI j) = nI (pvR ins (b1 (kC X (300 + m))) w (pF T m) j) ∧ pvR ins (b1 (kC X (300 + m))) w (pF T m) j < 100 ∧ (j < ins → pvR ins (b1 (kC X (300 + m))) w (pF T m) j = w + j)) ∧ (∀ k, k < 100 → nI k ∈ tmn T q → ∃ j, j < ucN (kP X) (kC X) zs a ∧ pvR ins (b1 (kC X (300 + m))) w (pF T m) j = k) ∧ rBs (kR X) (zs.getD a (-1)) (caf (kC X) zs a) = nrs (tD (kR X) q) ∧ decide (kd T m = 4) = kC X (300 + m) := by
  obtain ⟨hR, ha, hcc, hnx, htm, hO, hS⟩ := id hC
  obtain ⟨o1, hW, hG, h8, hP, hcs, hI, hRt, hF, hrs⟩ := id hO
  have h48 := hW.1.1
  have hrb : rBs (kR X) (zs.getD a (-1)) (caf (kC X) zs a) = r100 (kR X) q := by unfold rBs; rw [hq]
  have hpv : ∀ m, m < tN T → ∀ i, i < (pF T m).length → ∃ v, v < 100 ∧ (pF T m).getD i (-1) = nI v := fun m hm i hi => by
    obtain ⟨v, hv, e, _⟩ := pF_mem hW hm (getD_mem hi)
    exact ⟨v, hv, e⟩
  rcases rcall hO hS htm ha hcc hnx with ⟨ek, e1, -⟩ | ⟨m, hm, hf, ek, hk⟩
  · rw [e1] at hq; cases hq
  · have hpl : (pF T m).length ≤ 40 := by rw [← pT_F hf]; exact (hF m hm).2.2.2
    have hg : tGet (kR X) (zs.getD a (-1) - 300) = some m := by
      rw [ek, nI_sub300 (by omega), Nat.add_sub_cancel_left, tGet_nI (by omega), hI.1.1, if_pos hm]
    have hr100 : r100 (kR X) m = nI (300 + m) :: pF T m := by
      unfold r100
      rw [hI.2.2.1 m (Or.inr hf) hm, if_pos hf, List.take_of_length_le (by rw [List.length_cons]; omega)]
    have hnp : nP (sgP (kP X)) (zs.getD a (-1)) = (pF T m).length := by rw [ek]; exact hP.fn hW hm hf
    have hck := hcs m hm hf
    rcases hk with ⟨k3, hcf, ec, b, hCh, hvs, e1⟩ | ⟨k4, hct, ha1, c, b, k, hc6, ej1, ec, hCh, hEV, hres⟩
    · have : q = b := Option.some.inj (hq.symm.trans e1)
      subst this
      have hqN : q < tN T := by have := hCh.2.1; omega
      obtain ⟨u1, u2⟩ := uc_p (pt := kP X) ec
      rw [hnp] at u1
      refine ⟨m, 0, 0, hm, hf, ek, hpl, fun z => by rw [hcf] at z; (cases z), fun z => by rw [hcf] at z; (cases z), fun _ => rfl, by rw [u2, hcf]; rfl, by rw [u1, hcf, Nat.zero_add]; rfl, hqN, hG.ch (i := 0) hCh (by rw [k3]; decide) (by omega), fun z => by omega, fun j hj => ?_, fun k hk hmem => ?_, ?_, hck.symm⟩
      · rw [u1] at hj
        obtain ⟨v, hv, ev⟩ := hpv m hm j hj
        have e2 : pvR 0 (b1 (kC X (300 + m))) 0 (pF T m) j = v := by
          unfold pvR
          rw [if_neg (by omega), hcf, show b1 false + j - 0 = j by show 0 + j - 0 = j; omega, ev, nI_clamp (by omega)]
        rw [e2]
        refine ⟨?_, hv, fun z => by omega⟩
        unfold rVar
        rw [hg]
        simp only []
        rw [if_pos ec, hr100]
        unfold atI
        rw [show (1 : Int32) + nI j = nI (1 + j) from nI_add 1 j, if_neg (nI_pos (by omega)), nI_clamp (by omega), Nat.add_comm 1 j, List.getD_cons_succ, ev]
      · have h1 := hvs _ hmem (by rw [isV_n (by omega)]; exact decide_eq_true hk)
        have h2 := pF_has hk h1
        have h3 := mem_fidx h2
        refine ⟨fidx (nI k) (pF T m), by rw [u1]; exact h3, ?_⟩
        unfold pvR
        rw [if_neg (by omega), hcf, show b1 false + fidx (nI k) (pF T m) - 0 = fidx (nI k) (pF T m) by show 0 + _ - 0 = _; omega, fidx_lt h3, nI_clamp (by omega)]
      · rw [hrb]
        exact List.take_of_length_le (hI.2.2.2 q (by omega) hqN).1
    · rcases hres with ⟨e1, -⟩ | ⟨i, hi, e1, e11, -⟩
      · rw [e1] at hq; cases hq
      have : q = b + i := Option.some.inj (hq.symm.trans e1)
      subst this
      have hqN : b + i < tN T := by have := hCh.2.1; omega
      obtain ⟨cl, w, hcl, f11, f12, hwq, hvv⟩ := hEV.2.2.1 k4 i hi
      have ecl : cl = c := nI_inj (f11.symm.trans e11) (by omega) (by omega)
      subst ecl
      have hp1 := (pF_len hW hm).2 k4
      obtain ⟨u1, u2⟩ := uc_c hS.ok (by rw [ek, sgC_n (by omega)]; exact hct) hc6 ec
      rw [hnp] at u1
      have hq2 := qK_nat cl
      have hd := pF_0 k4
      have h9 := fun z => (((hRt.2 m hm).2 (Or.inr (Or.inr (Or.inl k4))) b k hCh).2.2.2 k4 i hi cl hcl f11).2 z
      have hclb : clBel (kR X) m (nI cl) = some (b + i) := by
        have e3 := e1
        unfold rNode at e3
        rw [hg] at e3
        simp only [] at e3
        rw [if_neg (by rw [hI.2.1 m hm, hf]; decide), ec] at e3
        unfold rBelow at e3
        rw [if_neg (nI_nm1 (by omega))] at e3
        exact e3
      have hb1 : b1 (kC X (300 + m)) = 1 := by rw [hct]; rfl
      refine ⟨m, qK cl, w, hm, hf, ek, hpl, fun _ => hp1, fun _ => ⟨cl, hc6, ej1, rfl, ha1⟩, fun z => by rw [hct] at z; (cases z), by rw [u2, hct]; rfl, by rw [u1, hct]; rfl, hqN, hG.ch hCh (by rw [k4]; decide) hi, fun z => by rw [h9 z]; exact f12 z, fun j hj => ?_, fun k0 hk hmem => ?_, ?_, hck.symm⟩
      · rw [u1] at hj
        rw [hb1]
        have ex : ¬ caf (kC X) zs a = -1 := by rw [ec]; exact nI_nm1 (by omega)
        unfold rVar
        rw [hg]
        simp only []
        rw [if_neg ex, ec, hq2.2]
        by_cases hji : j < qK cl
        · have e2 : pvR (qK cl) 1 w (pF T m) j = w + j := by unfold pvR; rw [if_pos hji]
          rw [e2, if_pos (nI_lt hji (by omega)), hclb]
          refine ⟨?_, by omega, fun _ => rfl⟩
          show (tD (kR X) (b + i)).1 12 + nI j = _
          rw [(hI.1.2.2.2 (b + i)).1 12 (by decide), f12 (by omega), nI_add]
        · obtain ⟨v, hv, ev⟩ := hpv m hm (1 + j - qK cl) (by omega)
          have e2 : pvR (qK cl) 1 w (pF T m) j = v := by unfold pvR; rw [if_neg hji, ev, nI_clamp (by omega)]
          rw [e2, if_neg (show ¬ nI j < nI (qK cl) from nI_nlt (by omega) (by omega)), hr100]
          refine ⟨?_, hv, fun z => absurd z hji⟩
          unfold atI
          rw [show (2 : Int32) + nI j = nI (2 + j) from nI_add 2 j, nI_subn (by omega), if_neg (nI_pos (by omega)), nI_clamp (by omega), show 2 + j - qK cl = (1 + j - qK cl) + 1 by omega, List.getD_cons_succ, ev]
      · rw [hb1]
        rcases hvv _ hmem (by rw [isV_n (by omega)]; exact decide_eq_true hk) with ⟨y1, y2⟩ | ⟨j, hj, y⟩
        · have h2 := pF_has hk y1
          have h3 := mem_fidx h2
          have h0 : fidx (nI k0) (pF T m) ≠ 0 := fun z => by
            have := fidx_lt h3
            rw [z, hd] at this
            exact y2 this.symm
          refine ⟨qK cl + fidx (nI k0) (pF T m) - 1, by rw [u1]; omega, ?_⟩
          unfold pvR
          rw [if_neg (by omega), show 1 + (qK cl + fidx (nI k0) (pF T m) - 1) - qK cl = fidx (nI k0) (pF T m) by omega, fidx_lt h3, nI_clamp (by omega)]
        · refine ⟨j, by rw [u1]; omega, ?_⟩
          unfold pvR
          rw [if_pos hj]
          exact (nI_inj y (by omega) (by omega)).symm
      · rw [hrb]
        exact List.take_of_length_le (hI.2.2.2 (b + i) (by omega) hqN).1
theorem sOK_r {pt0 : Nat → Int32} {cs0 : Nat → Bool} {σ : Mem} {X : CS} {T : TS} {j : Nat} (hO : trO σ X pt0 cs0 T) (hS : SW (kP X) (kC X)) (h : rA0 T j) : sOK σ (kP X) (kC X) (nI j) := by
  obtain ⟨o1, hW, hG, h8, hP, hcs, hI, hRt, hF, hrs⟩ := id hO
  have h48 := hW.1.1
  rcases h with h | ⟨m, hm, hf, rfl⟩ | rfl
  · obtain ⟨c, rfl⟩ : ∃ c, j = 100 + c := ⟨j - 100, by omega⟩
    refine ⟨100 + c, rfl, Or.inl (by omega), ?_, fun z => by omega⟩
    rw [sgP_n (by omega), hS.2.2.1 c (by omega)]
    unfold mPk
    rw [if_neg (by omega), if_neg (by omega), if_pos (by omega)]
    have : c = 0 ∨ c = 1 ∨ c = 2 ∨ c = 3 ∨ c = 4 ∨ c = 5 := by omega
    rcases this with rfl | rfl | rfl | rfl | rfl | rfl <;> decide
  · refine ⟨300 + m, rfl, Or.inr (Or.inl ⟨by omega, by omega⟩), ?_, fun _ => Or.inr (Or.inl ⟨by omega, by omega, ?_⟩)⟩
    · rw [sgP_n (by omega), hP (300 + m), if_pos ⟨by omega, by omega, by rw [Nat.add_sub_cancel_left]; exact hf⟩, Nat.add_sub_cancel_left]
      unfold mPk
      rw [if_neg (by omega), if_neg (by omega), if_neg (by omega), if_neg (by omega), Nat.add_sub_cancel_left, (hF m hm).2.1, pT_F hf]
    · rw [Nat.add_sub_cancel_left, (hRt.2 m hm).1.1]
      exact (hcs m hm hf).symm
  · refine ⟨400, rfl, Or.inr (Or.inr rfl), ?_, fun _ => Or.inr (Or.inr ⟨rfl, ?_⟩)⟩
    · rw [sgP_n (by omega), hS.2.2.2.2.1]
      rfl
    · cases z : kC X 400 with
      | false => rfl
      | true => exact absurd rfl (hS.2.2.2.2.2 400 (by omega) z).2.1
theorem rL_tm {pt0 : Nat → Int32} {cs0 : Nat → Bool} {σ : Mem} {X : CS} {T : TS} {zs : List Int32} {a q : Nat} (hC : cRr σ X pt0 cs0 T zs a) (hq : rNode (kR X) (zs.getD a (-1)) (caf (kC X) zs a) = some q) : tmq (nP (sgP (kP X))) (rA0 T) (rL (kP X) (kC X) (kR X) zs a) := by
  obtain ⟨m, ins, w, d1, d2, d3, d4, d5, d6, d7, d8, d9, d10, d11, d12, d13, d14, d15, d16⟩ := rdata hC hq
  obtain ⟨hR, ha, hcc, hnx, htm, hO, hS⟩ := id hC
  obtain ⟨o1, hW, hG, h8, hP, hcs, hI, hRt, hF, hrs⟩ := id hO
  have hzl := hR.2.2.1
  obtain ⟨he, bb, hfb⟩ := call_parts (cs := kC X) (a := a) hS (show zs.length ≤ 10000 by omega) htm ha
  unfold rL
  rw [d15]
  have hbs := (hI.2.2.2 q (by omega) d10).2.2 d11
  refine unf_tm hS.ok.1 (by omega) htm ha he hfb hbs ?_ ?_
  · intro k hk hB
    refine ⟨hS.v hk, ?_⟩
    rcases hB with z | z | ⟨m', _, _, z⟩ | z
    · obtain ⟨j, hj, e⟩ := d14 k hk z.2
      exact ⟨j, hj, by rw [(d13 j hj).1, e]⟩
    · omega
    · omega
    · omega
  · intro k hk hk4 hB
    rcases hB with z | z | z | z
    · omega
    · exact Or.inl z
    · exact Or.inr (Or.inl z)
    · exact Or.inr (Or.inr z)
set_option maxRecDepth 10000 in
set_option maxHeartbeats 1000000 in
theorem c_Mo_unfold_r {G : Ctx} {d : Nat} {Γ : List Sh} {σ : Mem} {Q : Option Value → List Sh → Mem → Prop} {X : CS} {pt0 : Nat → Int32} {cs0 : Nat → Bool} {T : TS} {zs : List Int32} {a q : Nat} (hM : MoS Γ σ) (hC : cRr σ X pt0 cs0 T zs a) (hzl4 : zs.length ≤ 200) (hu : rNode (kR X) (zs.getD a (-1)) (caf (kC X) zs a) = some q) (hQ : ∀ τ, FrI [415, 416, 417, 418] σ τ → seg τ 415 0 (rL (kP X) (kC X) (kR X) zs a) → Q none Γ (wI τ 391 30 (nI (rL (kP X) (kC X) (kR X) zs a).length))) : Ct G M_Mo_unfold (d + 5) 0 0 [rf G 391, .int (nI a)] Γ σ Q := by
  obtain ⟨m, ins, w, d1, d2, d3, d4, d5, d6, d7, d8, d9, d10, d11, d12, d13, d14, d15, d16⟩ := rdata hC hu
  obtain ⟨hR, ha, hcc, hnx, htm, hO, hS⟩ := id hC
  have hzl := hR.2.2.1
  have hrow : ∀ i, i < zs.length → σ.1 415 i = zs.getD i (-1) := fun i hi => by have := hR.2.1 i hi; rw [Nat.zero_add] at this; exact this
  obtain ⟨o1, hW, hG, h8, hP, hcs, hI, hRt, hF, hrs⟩ := id hO
  have h48 := hW.1.1
  have hrq := hrs q (by omega) d10 d11
  have hrl := (hI.2.2.2 q (by omega) d10).1
  have hrt := (hI.2.2.2 q (by omega) d10).2.2 d11
  obtain ⟨he, b, hfb⟩ := call_parts (cs := kC X) (a := a) hS (show zs.length ≤ 10000 by omega) htm ha
  have huc : ucN (kP X) (kC X) zs a ≤ 100 := (ucI_nat hS.ok).2
  have hbl : b1 (kC X (300 + m)) ≤ (pF T m).length := by
    unfold b1
    split
    · next z => exact d5 z
    · exact Nat.zero_le _
  have hpk : mPk σ (300 + m) = nI (pF T m).length := by
    unfold mPk
    rw [if_neg (by omega), if_neg (by omega), if_neg (by omega), if_neg (by omega), Nat.add_sub_cancel_left, (hF m d1).2.1, pT_F d2]
  refine Ct.of (lv := [some (rf G 391), some (.int (nI a)), none, none, none, none, none, none, none, none, none]) (ll := []) rfl rfl (EN.cat (n := 9) ⟨rfl, rfl, trivial⟩ (Nat.le_of_ble_eq_true rfl)) ?_
  first | refine x_aload_n d_Mo_unfold_0 rfl rfl ?_ | refine x_aloadN_n d_Mo_unfold_0 rfl rfl ?_ | refine x_aloadE_n d_Mo_unfold_0 rfl rfl ?_ | refine x_aloadO_n d_Mo_unfold_0 rfl rfl ?_
  refine x_iload_n d_Mo_unfold_1 rfl rfl ?_
  refine x_callV1 d_Mo_unfold_2 k_Mo_bodyOf l_Mo_171 v_Mo_bodyOf rfl s_Mo_bodyOf (by first | exact hM.1 | exact hM.s rfl | assumption) RoomE.m (Nat.le_of_ble_eq_true rfl) (c_Mo_bodyOf_r hM hC (fun z => by rw [hu] at z; cases z) (fun q2 hq2 => ?_))
  have eq2 : q = q2 := Option.some.inj (hu.symm.trans hq2)
  subst eq2
  have hpar : ∀ x, b1 (kC X (300 + m)) ≤ x → x < (pF T m).length → σ.1 411 (40 * (300 + m - 300) + x) = nI (pvR ins (b1 (kC X (300 + m))) w (pF T m) (ins + x - b1 (kC X (300 + m)))) := by
    intro x hx1 hx2
    have hb1 : b1 (kC X (300 + m)) ≤ 1 := by unfold b1; split <;> omega
    have := (hF m d1).2.2.1 x (by rw [pT_F d2]; exact hx2)
    rw [Nat.add_sub_cancel_left, this, pT_F d2]
    obtain ⟨v, hv, ev, _⟩ := pF_mem hW d1 (getD_mem hx2)
    unfold pvR
    rw [if_neg (by omega), show b1 (kC X (300 + m)) + (ins + x - b1 (kC X (300 + m))) - ins = x by omega, ev, nI_clamp (by omega)]
  refine x_istore_n d_Mo_unfold_5 rfl rfl ?_
  first | refine x_aload_n d_Mo_unfold_6 rfl rfl ?_ | refine x_aloadN_n d_Mo_unfold_6 rfl rfl ?_ | refine x_aloadE_n d_Mo_unfold_6 rfl rfl ?_ | refine x_aloadO_n d_Mo_unfold_6 rfl rfl ?_
  refine x_getR d_Mo_unfold_7 f_Mo_80 rfl (by first | exact hM.1 | exact hM.s rfl | assumption) (hM.r rfl) ?_
  refine x_iload_n d_Mo_unfold_10 rfl rfl ?_
  refine x_iald d_Mo_unfold_11 (by first | exact hM.1 | exact hM.s rfl | assumption) (vp_in_nI (show a < 20400 by omega) (by decide)) ?_
  rw [nI_clamp (by omega), hrow a ha, d3]
  refine x_sipush (v := 300) d_Mo_unfold_12 (by decide) ?_
  refine x_icmp_ge (tgt := 22) d_Mo_unfold_15 (by decide) (fun c15 => ?_) (fun c15 => ?_)
  · refine x_iconst (v := 0) d_Mo_unfold_22 (by decide) ?_
    refine x_istore_n d_Mo_unfold_23 rfl rfl ?_
    first | refine x_aload_n d_Mo_unfold_24 rfl rfl ?_ | refine x_aloadN_n d_Mo_unfold_24 rfl rfl ?_ | refine x_aloadE_n d_Mo_unfold_24 rfl rfl ?_ | refine x_aloadO_n d_Mo_unfold_24 rfl rfl ?_
    refine x_iload_n d_Mo_unfold_25 rfl rfl ?_
    refine x_iload_n d_Mo_unfold_26 rfl rfl ?_
    refine x_callV2 d_Mo_unfold_27 k_Mo_bind l_Mo_174 v_Mo_bind rfl s_Mo_bind (by first | exact hM.1 | exact hM.s rfl | assumption) RoomE.m (Nat.le_of_ble_eq_true rfl) (c_Mo_bind (bb := b) (cnt := ucN (kP X) (kC X) zs a) (ins := ins) (prt := (pF T m).length) (k := 300 + m) (p0 := up0 (kC X) zs a) (old := false) (pv := pvR ins (b1 (kC X (300 + m))) w (pF T m)) hM hS.ok hR ha d3 (Or.inr (Or.inl ⟨by omega, by omega⟩)) (Or.inr (Or.inl ⟨by omega, by omega, by rw [Nat.add_sub_cancel_left, (hRt.2 m d1).1.1]; exact d16⟩)) hpk (by omega) d5 d6 d7 d8 (up0_le ha) d9 hfb (fun z => by cases z) (fun _ => ⟨by omega, by omega, d4⟩) (fun j hj => (d13 j hj).2.1) (fun z => by cases z) (fun _ => vp_in_nI (show q < 48 by omega) (by decide)) (fun _ τ ft j hj => by rw [nI_clamp (by omega), ft.2 409 (by simp), d12 (by omega), nI_add, (d13 j (by omega)).2.2 hj]) (fun _ x hx1 hx2 => hpar x hx1 hx2) (fun τ1 f1 st1 => ?_))
    have hM1 := hM.fr f1
    have hM := hM1
    refine x_istore d_Mo_unfold_30 rfl ?_
    refine x_iload_n d_Mo_unfold_32 rfl rfl ?_
    refine x_if_eq (tgt := 43) d_Mo_unfold_33 (by decide) (fun c33 => ?_) (fun c33 => ?_)
    · first | refine x_aload_n d_Mo_unfold_43 rfl rfl ?_ | refine x_aloadN_n d_Mo_unfold_43 rfl rfl ?_ | refine x_aloadE_n d_Mo_unfold_43 rfl rfl ?_ | refine x_aloadO_n d_Mo_unfold_43 rfl rfl ?_
      refine x_getR d_Mo_unfold_44 f_Mo_74 rfl (by first | exact hM.1 | exact hM.s rfl | assumption) (hM.r rfl) ?_
      first | refine x_astore d_Mo_unfold_47 rfl ?_ | refine x_astoreN d_Mo_unfold_47 rfl ?_ | refine x_astoreE d_Mo_unfold_47 rfl ?_ | refine x_astoreO d_Mo_unfold_47 rfl ?_
      refine x_iload_n d_Mo_unfold_49 rfl rfl ?_
      refine x_if_eq (tgt := 60) d_Mo_unfold_50 (by decide) (fun c50 => ?_) (fun c50 => ?_)
      · refine x_bipush (v := 100) d_Mo_unfold_60 (by decide) ?_
        refine x_iload_n d_Mo_unfold_62 rfl rfl ?_
        refine x_imul d_Mo_unfold_63 ?_
        rw [mul100]
        refine x_istore d_Mo_unfold_64 rfl ?_
        refine x_iload_n d_Mo_unfold_66 rfl rfl ?_
        refine x_if_eq (tgt := 79) d_Mo_unfold_67 (by decide) (fun c67 => ?_) (fun c67 => ?_)
        · first | refine x_aload_n d_Mo_unfold_79 rfl rfl ?_ | refine x_aloadN_n d_Mo_unfold_79 rfl rfl ?_ | refine x_aloadE_n d_Mo_unfold_79 rfl rfl ?_ | refine x_aloadO_n d_Mo_unfold_79 rfl rfl ?_
          refine x_getR d_Mo_unfold_80 f_Mo_77 rfl (by first | exact hM.1 | exact hM.s rfl | assumption) (hM.r rfl) ?_
          refine x_iload_n d_Mo_unfold_83 rfl rfl ?_
          refine x_iald d_Mo_unfold_84 (by first | exact hM.1 | exact hM.s rfl | assumption) (vp_in_nI (show q < 48 by omega) (by decide)) ?_
          rw [nI_clamp (by omega), f1.2 414 (by simp), hrq.1]
          refine x_istore d_Mo_unfold_85 rfl ?_
          have hz1 : 1 ≤ zs.length := by omega
          have hL : rL (kP X) (kC X) (kR X) zs a = zs.take a ++ (nrs (tD (kR X) q)).flatMap (uS (sgP (kP X)) zs (fun j => nI (pvR ins (b1 (kC X (300 + m))) w (pF T m) j)) (up0 (kC X) zs a) (ucN (kP X) (kC X) zs a)) ++ zs.drop (ends (sgP (kP X)) zs (up0 (kC X) zs a) (ucN (kP X) (kC X) zs a)) := by
            unfold rL unf
            rw [d15]
            congr 2
            exact flat_cg (fun s _ => uS_cg (fun j hj => (d13 j hj).1))
          have hlen := unf_len (P := sgP (kP X)) (zs := zs) (bs := nrs (tD (kR X) q)) (pv := fun j => rVar (kR X) (zs.getD a (-1)) (caf (kC X) zs a) (nI j)) (a := a) (p0 := up0 (kC X) zs a) (cnt := ucN (kP X) (kC X) zs a) hz1
          exact unf_tail (pt := kP X) (pv := pvR ins (b1 (kC X (300 + m))) w (pF T m)) (Nf := 4800) (p0 := up0 (kC X) zs a) (cnt := ucN (kP X) (kC X) zs a) (L := rL (kP X) (kC X) (kR X) zs a) hM1 (by rw [f1.2 391 (by simp)]; exact hR.1) (hR.2.1.fr f1 (by simp)) hzl ha rfl (up0_le ha) (hM1.s rfl) (by simp) (by omega) (by decide) (hrq.2.fr f1 (by simp)) (fun s hs => by
            obtain ⟨k, h4, e, hg⟩ := hrt.2 s hs
            refine ⟨k, e, h4, fun hk => ?_⟩
            rcases hg with z | z | ⟨m', _, _, z⟩ | z
            · exact d14 k hk z.2
            · omega
            · omega
            · omega) (fun j hj => by have := (d13 j hj).2.1; omega) st1 hL (by
            unfold rL
            rw [d15]
            refine Nat.le_trans hlen ?_
            have : zs.length * (nrs (tD (kR X) q)).length ≤ 200 * 100 := Nat.mul_le_mul hzl4 hrl
            omega) (fun τ2 f2 s2 => hQ τ2 ((f1.mono (by simp)).tr (f2.mono (by simp))) s2)
        · exact absurd rfl c67
      · exact absurd rfl c50
    · exact absurd rfl c33
  · exact absurd (show nI 300 ≤ nI (300 + m) from nI_le (by omega) (by omega)) c15
