/-! SuperDriverModel: rival -/
def rfR (T : TS) (st : Bool) (t : Nat → Bool) : Nat → Option Nat → Option Nat
  | 0, _ => none
  | _ + 1, none => none
  | f + 1, some u => if st = true ∧ kd T u ≠ 3 ∧ kd T u ≠ 7 then none else if kd T u = kdR st ∧ t u = true then some u else rfR T st t f (lkn T u 3)
theorem rfR_c {T : TS} {st : Bool} {t : Nat → Bool} {f u : Nat} : rfR T st t (f + 1) (some u) = if st = true ∧ kd T u ≠ 3 ∧ kd T u ≠ 7 then none else if kd T u = kdR st ∧ t u = true then some u else rfR T st t f (lkn T u 3) := rfl
theorem rRiv_c {T : TS} {st : Bool} {t : Nat → Bool} {f u : Nat} : rRiv T st t (f + 1) (some u) = if t u = true then some u else rRiv T st t f (nxR T st u) := rfl
theorem rRiv_0 {T : TS} {st : Bool} {t : Nat → Bool} {o : Option Nat} : rRiv T st t 0 o = none := rfl
theorem nRiv_fuel {T : TS} {st : Bool} (hA : AW T) : ∀ {f g : Nat} {o : Option Nat}, (∀ u, o = some u → u < f ∧ u < g ∧ u < tN T) → nRiv T st f o = nRiv T st g o
  | 0, 0, _, _ => rfl
  | 0, g + 1, none, _ => rfl
  | f + 1, 0, none, _ => rfl
  | f + 1, g + 1, none, _ => rfl
  | 0, g + 1, some u, h => by have := h u rfl; omega
  | f + 1, 0, some u, h => by have := h u rfl; omega
  | f + 1, g + 1, some u, h => by
    unfold nRiv
    have hu := h u rfl
    split
    · rfl
    · split
      · rfl
      · exact nRiv_fuel hA (fun w hw => by have := hA u hu.2.2 w hw; omega)
theorem rRiv_fuel {T : TS} {st : Bool} {t : Nat → Bool} (hA : AW T) : ∀ {f g : Nat} {o : Option Nat}, (∀ u, o = some u → u < f ∧ u < g ∧ u < tN T) → rRiv T st t f o = rRiv T st t g o
  | 0, 0, _, _ => rfl
  | 0, g + 1, none, _ => rfl
  | f + 1, 0, none, _ => rfl
  | f + 1, g + 1, none, _ => rfl
  | 0, g + 1, some u, h => by have := h u rfl; omega
  | f + 1, 0, some u, h => by have := h u rfl; omega
  | f + 1, g + 1, some u, h => by
    unfold rRiv
    have hu := h u rfl
    split
    · rfl
    · exact rRiv_fuel hA (fun w hw => by have := nxR_lt hA hu.2.2 hw; omega)
theorem rfR_eq {T : TS} {st : Bool} {t : Nat → Bool} (hA : AW T) : ∀ {f g : Nat} {o : Option Nat}, (∀ u, o = some u → u < f ∧ u < g ∧ u < tN T) → rfR T st t f o = rRiv T st t g (nRiv T st f o)
  | 0, g, none, _ => by rw [nRiv_none, rRiv_none]; rfl
  | 0, g, some u, h => by have := h u rfl; omega
  | f + 1, g, none, _ => by rw [nRiv_none, rRiv_none]; rfl
  | f + 1, g, some u, h => by
    have hu := h u rfl
    unfold rfR nRiv
    have ih : ∀ g', u ≤ g' → rfR T st t f (lkn T u 3) = rRiv T st t g' (nRiv T st f (lkn T u 3)) := fun g' hg' => rfR_eq hA (fun w hw => by have := hA u hu.2.2 w hw; omega)
    by_cases hk : kd T u = kdR st
    · have hk' : (tD T u).1 7 = kdR st := hk
      rw [if_pos hk']
      have h1 : ¬ (st = true ∧ kd T u ≠ 3 ∧ kd T u ≠ 7) := fun z => by
        rw [z.1] at hk
        exact z.2.1 hk
      rw [if_neg h1]
      obtain ⟨g, rfl⟩ : ∃ r, g = r + 1 := ⟨g - 1, by omega⟩
      unfold rRiv
      by_cases ht : t u = true
      · rw [if_pos ⟨hk, ht⟩, if_pos ht]
      · rw [if_neg (fun z => ht z.2), if_neg ht, ih g (by omega)]
        unfold nxR
        rw [nRiv_fuel (f := f) (g := u) hA (fun w hw => by have := hA u hu.2.2 w hw; omega)]
        rfl
    · have hk' : ¬ (tD T u).1 7 = kdR st := hk
      rw [if_neg hk']
      by_cases h7 : (st && !decide ((tD T u).1 7 = 7)) = true
      · rw [if_pos h7]
        obtain ⟨z1, z2⟩ := Bool.and_eq_true_iff.mp h7
        have z3 : ¬ (tD T u).1 7 = 7 := by simpa using z2
        have z3 : ¬ kd T u = 7 := z3
        rw [z1] at hk
        rw [if_pos ⟨z1, hk, z3⟩, rRiv_none]
      · rw [if_neg h7]
        have h1 : ¬ (st = true ∧ kd T u ≠ 3 ∧ kd T u ≠ 7) := fun z => h7 (by
          rw [z.1]
          have := z.2.2
          unfold kd at this
          simpa using this)
        rw [if_neg h1, if_neg (fun z => hk z.1), ih g (by omega)]
        rfl
def rvT (P : Int32 → Int32) (T : TS) (n : Nat) (wi : Bool) (u : Nat) : Bool := if wi = true then embB P (tmn T u) (tmn T n) else renI (tmn T u) (tmn T n)
theorem rv_ren {pt : Nat → Int32} {T : TS} {st : Bool} {n : Nat} (hW : WF pt T none) (hn : n < tN T) : rfR T st (rvT (sgP pt) T n false) n (lkn T n 3) = renR T st n := by
  unfold renR
  rw [rfR_eq (g := n) hW.1.AW (fun u hu => by have := hW.1.AW n hn u hu; omega)]
  show rRiv T st _ n (nxR T st n) = _
  have key : ∀ (f : Nat) (o : Option Nat), (∀ u, o = some u → u < tN T) → rRiv T st (rvT (sgP pt) T n false) f o = rRiv T st (fun u => renI (t40 T n) (t40 T u)) f o := by
    intro f
    induction f with
    | zero => intro o _; rw [rRiv_0, rRiv_0]
    | succ f ih =>
      intro o ho
      cases o with
      | none => rw [rRiv_none, rRiv_none]
      | some u =>
        have hu := ho u rfl
        have e : rvT (sgP pt) T n false u = renI (t40 T n) (t40 T u) := by
          unfold rvT
          rw [if_neg (show ¬ false = true by decide), hW.t40 hn, hW.t40 hu, renI_sy]
        rw [rRiv_c, rRiv_c, e, ih _ (fun w hw => (nxR_lt hW.1.AW hu hw).2)]
  exact key n _ (fun u hu => (nxR_lt hW.1.AW hn hu).2)
theorem rv_emb {pt : Nat → Int32} {T : TS} {st : Bool} {n : Nat} (hW : WF pt T none) (hn : n < tN T) : rfR T st (rvT (sgP pt) T n true) n (lkn T n 3) = embR (sgP pt) T st n := by
  unfold embR
  rw [rfR_eq (g := n) hW.1.AW (fun u hu => by have := hW.1.AW n hn u hu; omega)]
  show rRiv T st _ n (nxR T st n) = _
  have key : ∀ (f : Nat) (o : Option Nat), (∀ u, o = some u → u < tN T) → rRiv T st (rvT (sgP pt) T n true) f o = rRiv T st (fun u => embB (sgP pt) (t40 T u) (t40 T n)) f o := by
    intro f
    induction f with
    | zero => intro o _; rw [rRiv_0, rRiv_0]
    | succ f ih =>
      intro o ho
      cases o with
      | none => rw [rRiv_none, rRiv_none]
      | some u =>
        have hu := ho u rfl
        have e : rvT (sgP pt) T n true u = embB (sgP pt) (t40 T u) (t40 T n) := by
          unfold rvT
          rw [if_pos rfl, hW.t40 hn, hW.t40 hu]
        rw [rRiv_c, rRiv_c, e, ih _ (fun w hw => (nxR_lt hW.1.AW hu hw).2)]
  exact key n _ (fun u hu => (nxR_lt hW.1.AW hn hu).2)
set_option maxRecDepth 10000 in
set_option maxHeartbeats 1000000 in
theorem c_Mo_rival {G : Ctx} {d : Nat} {Γ : List Sh} {σ : Mem} {Q : Option Value → List Sh → Mem → Prop} {pt : Nat → Int32} {cs : Nat → Bool} {T : TS} {n : Nat} {st wi : Bool} (hM : MoS Γ σ) (hS : SW pt cs) (hp : ∀ f, f < 8 → σ.1 393 f = pt (200 + f)) (hR : Rt σ T none) (hW : WF pt T none) (hn : n < tN T) (hQ : ∀ τ, FrI [419, 420, 421] σ τ → Q (some (.int (oI (rfR T st (rvT (sgP pt) T n wi) n (lkn T n 3))))) Γ τ) : Ct G M_Mo_rival (d + 5) 0 0 [rf G 391, .int (nI n), .int (bI st), .int (bI wi)] Γ σ Q := by
  have hN48 := hW.1.1
  generalize hRR : rfR T st (rvT (sgP pt) T n wi) n (lkn T n 3) = R at hQ
  have lp : ∀ (f : Nat) (o : Option Nat) (τ : Mem), FrI [419, 420, 421] σ τ → (∀ u, o = some u → u < f ∧ u < tN T) → rfR T st (rvT (sgP pt) T n wi) f o = R → Wq G M_Mo_rival (Em G (d + 5) 0 0 Q) 0 0 8 [some (rf G 391), some (.int (nI n)), some (.int (bI st)), some (.int (bI wi)), some (.int (oI o))] [] [] Γ τ := by
    intro f
    induction f with
    | zero =>
      intro o τ fr0 ho hr
      have ho0 : o = none := by
        cases o with
        | none => rfl
        | some u => have := ho u rfl; omega
      subst ho0
      have f : Nat := 0
      replace hr : rfR T st (rvT (sgP pt) T n wi) 0 none = R := hr
      refine x_iload d_Mo_rival_8 rfl ?_
      refine x_iconst (v := -1) d_Mo_rival_10 (by decide) ?_
      refine x_icmp_eq (tgt := 104) d_Mo_rival_11 (by decide) (fun c11 => ?_) (fun c11 => ?_)
      · refine x_iconst (v := -1) d_Mo_rival_104 (by decide) ?_
        exact x_ireturn d_Mo_rival_105 rfl (by first | rfl | decide) (by
          have hres : none = R := by
            rw [← hr]
            rfl
          rw [← hres] at hQ
          exact hQ τ fr0)
      · exact absurd (show oI none = (-1 : Int32) from rfl) c11
    | succ f ih =>
      intro o τ fr0 ho hr
      have hM := hM.fr fr0
      have hR := hR.fr fr0 (by simp)
      have hp : ∀ f, f < 8 → τ.1 393 f = pt (200 + f) := fun f hf => by rw [fr0.2 393 (by simp)]; exact hp f hf
      cases o with
      | none =>
        refine x_iload d_Mo_rival_8 rfl ?_
        refine x_iconst (v := -1) d_Mo_rival_10 (by decide) ?_
        refine x_icmp_eq (tgt := 104) d_Mo_rival_11 (by decide) (fun c11 => ?_) (fun c11 => ?_)
        · refine x_iconst (v := -1) d_Mo_rival_104 (by decide) ?_
          exact x_ireturn d_Mo_rival_105 rfl (by first | rfl | decide) (by
            have hres : none = R := by
              rw [← hr]
              rfl
            rw [← hres] at hQ
            exact hQ τ fr0)
        · exact absurd (show oI none = (-1 : Int32) from rfl) c11
      | some u =>
        have hu := ho u rfl
        rw [oI_s]
        have j59 : ∀ (y : Int32), y = kdR st → ¬ (st = true ∧ kd T u ≠ 3 ∧ kd T u ≠ 7) → Wq G M_Mo_rival (Em G (d + 5) 0 0 Q) 0 0 59 [some (rf G 391), some (.int (nI n)), some (.int (bI st)), some (.int (bI wi)), some (.int (nI u))] [] [.int y, .int (kd T u)] Γ τ := by
          intro y hkr h1
          refine x_icmp_ne (tgt := 92) d_Mo_rival_59 (by decide) (fun c59 => ?_) (fun c59 => ?_)
          · have τd : True := trivial
            have fr2 : FrI [419, 420, 421] τ τ := FrI.rf
            have hR1 := hR
            have hres : rfR T st (rvT (sgP pt) T n wi) f (lkn T u 3) = R := by
              rw [← hr]
              rw [rfR_c, if_neg h1, if_neg (show ¬ (kd T u = kdR st ∧ rvT (sgP pt) T n wi u = true) from fun z => by first | exact c59 (z.1.trans hkr.symm) | exact (fun _ => c59 (z.1.trans hkr.symm)) z.2)]
            first | refine x_aload_n d_Mo_rival_92 rfl rfl ?_ | refine x_aloadN_n d_Mo_rival_92 rfl rfl ?_ | refine x_aloadE_n d_Mo_rival_92 rfl rfl ?_ | refine x_aloadO_n d_Mo_rival_92 rfl rfl ?_
            refine x_getR d_Mo_rival_93 f_Mo_38 rfl (by first | exact hM.1 | exact hM.s rfl | assumption) (hM.r rfl) ?_
            refine x_iload d_Mo_rival_96 rfl ?_
            refine x_iald d_Mo_rival_98 (by first | exact hM.1 | exact hM.s rfl | assumption) (vp_in_nI (show u < 48 by omega) (by decide)) ?_
            rw [nI_clamp (by omega), (hR1.2.2.2 u hu.2).1.2.1]
            refine x_istore d_Mo_rival_99 rfl ?_
            refine x_goto (tgt := 8) d_Mo_rival_101 (by decide) ?_
            exact Wq.fg (ih (lkn T u 3) τ (fr0.tr fr2) (fun w hw => by have := hW.1.AW u hu.2 w hw; omega) hres) ⟨rfl, rfl, rfl, rfl, rfl, trivial⟩
          · refine x_iload_n d_Mo_rival_62 rfl rfl ?_
            refine x_if_eq (tgt := 79) d_Mo_rival_63 (by decide) (fun c63 => ?_) (fun c63 => ?_)
            · first | refine x_aload_n d_Mo_rival_79 rfl rfl ?_ | refine x_aloadN_n d_Mo_rival_79 rfl rfl ?_ | refine x_aloadE_n d_Mo_rival_79 rfl rfl ?_ | refine x_aloadO_n d_Mo_rival_79 rfl rfl ?_
              refine x_iload d_Mo_rival_80 rfl ?_
              refine x_iload_n d_Mo_rival_82 rfl rfl ?_
              refine x_callV2 d_Mo_rival_83 k_Mo_isRenaming l_Mo_198 v_Mo_isRenaming rfl s_Mo_isRenaming (by first | exact hM.1 | exact hM.s rfl | assumption) RoomE.m (Nat.le_of_ble_eq_true rfl) (c_Mo_isRenaming hM (hR.twT hW hS hp hu.2 hn) (hR.2.2.2 u hu.2).1.2.2.1.1 (hR.2.2.2 n hn).1.2.2.1.1 (fun τ2 f2 m2 => ?_))
              have fr2 : FrI [419, 420, 421] τ τ2 := f2.mono (by simp)
              have hM2 := hM.fr f2
              have hR1 := hR.fr f2 (by simp)
              refine x_if_eq (tgt := 92) d_Mo_rival_86 (by decide) (fun c86 => ?_) (fun c86 => ?_)
              · have hM := hM2
                have hres : rfR T st (rvT (sgP pt) T n wi) f (lkn T u 3) = R := by
                  rw [← hr]
                  rw [rfR_c, if_neg h1, if_neg (show ¬ (kd T u = kdR st ∧ rvT (sgP pt) T n wi u = true) from fun z => by first | exact c59 (z.1.trans hkr.symm) | exact (fun y => by rw [rvT, if_neg (by rw [bI_0 c63]; decide), bI_0 c86] at y; cases y) z.2)]
                first | refine x_aload_n d_Mo_rival_92 rfl rfl ?_ | refine x_aloadN_n d_Mo_rival_92 rfl rfl ?_ | refine x_aloadE_n d_Mo_rival_92 rfl rfl ?_ | refine x_aloadO_n d_Mo_rival_92 rfl rfl ?_
                refine x_getR d_Mo_rival_93 f_Mo_38 rfl (by first | exact hM.1 | exact hM.s rfl | assumption) (hM.r rfl) ?_
                refine x_iload d_Mo_rival_96 rfl ?_
                refine x_iald d_Mo_rival_98 (by first | exact hM.1 | exact hM.s rfl | assumption) (vp_in_nI (show u < 48 by omega) (by decide)) ?_
                rw [nI_clamp (by omega), (hR1.2.2.2 u hu.2).1.2.1]
                refine x_istore d_Mo_rival_99 rfl ?_
                refine x_goto (tgt := 8) d_Mo_rival_101 (by decide) ?_
                exact Wq.fg (ih (lkn T u 3) τ2 (fr0.tr fr2) (fun w hw => by have := hW.1.AW u hu.2 w hw; omega) hres) ⟨rfl, rfl, rfl, rfl, rfl, trivial⟩
              · refine x_iload d_Mo_rival_89 rfl ?_
                exact x_ireturn d_Mo_rival_91 rfl (by first | rfl | decide) (by
                  have hres : some u = R := by
                    rw [← hr]
                    rw [rfR_c, if_neg h1, if_pos ⟨c59.trans hkr, by
                      first
                      | (rw [rvT, if_pos (bI_n0 c63)]; exact bI_n0 c73)
                      | (rw [rvT, if_neg (by rw [bI_0 c63]; decide)]; exact bI_n0 c86)⟩]
                  rw [← hres] at hQ
                  exact hQ τ2 (fr0.tr fr2))
            · first | refine x_aload_n d_Mo_rival_66 rfl rfl ?_ | refine x_aloadN_n d_Mo_rival_66 rfl rfl ?_ | refine x_aloadE_n d_Mo_rival_66 rfl rfl ?_ | refine x_aloadO_n d_Mo_rival_66 rfl rfl ?_
              refine x_iload d_Mo_rival_67 rfl ?_
              refine x_iload_n d_Mo_rival_69 rfl rfl ?_
              refine x_callV2 d_Mo_rival_70 k_Mo_isEmbedded l_Mo_194 v_Mo_isEmbedded rfl s_Mo_isEmbedded (by first | exact hM.1 | exact hM.s rfl | assumption) RoomE.m (Nat.le_of_ble_eq_true rfl) (c_Mo_isEmbedded hM hS.ok.1 hS.v0 (hR.twT hW hS hp hu.2 hn) (hR.2.2.2 u hu.2).1.2.2.1.1 (hR.2.2.2 n hn).1.2.2.1.1 (fun τ2 f2 => ?_))
              have fr2 : FrI [419, 420, 421] τ τ2 := f2.mono (by simp)
              have hM2 := hM.fr f2
              have hR1 := hR.fr f2 (by simp)
              refine x_if_eq (tgt := 92) d_Mo_rival_73 (by decide) (fun c73 => ?_) (fun c73 => ?_)
              · have hM := hM2
                have hres : rfR T st (rvT (sgP pt) T n wi) f (lkn T u 3) = R := by
                  rw [← hr]
                  rw [rfR_c, if_neg h1, if_neg (show ¬ (kd T u = kdR st ∧ rvT (sgP pt) T n wi u = true) from fun z => by first | exact c59 (z.1.trans hkr.symm) | exact (fun y => by rw [rvT, if_pos (bI_n0 c63), bI_0 c73] at y; cases y) z.2)]
                first | refine x_aload_n d_Mo_rival_92 rfl rfl ?_ | refine x_aloadN_n d_Mo_rival_92 rfl rfl ?_ | refine x_aloadE_n d_Mo_rival_92 rfl rfl ?_ | refine x_aloadO_n d_Mo_rival_92 rfl rfl ?_
                refine x_getR d_Mo_rival_93 f_Mo_38 rfl (by first | exact hM.1 | exact hM.s rfl | assumption) (hM.r rfl) ?_
                refine x_iload d_Mo_rival_96 rfl ?_
                refine x_iald d_Mo_rival_98 (by first | exact hM.1 | exact hM.s rfl | assumption) (vp_in_nI (show u < 48 by omega) (by decide)) ?_
                rw [nI_clamp (by omega), (hR1.2.2.2 u hu.2).1.2.1]
                refine x_istore d_Mo_rival_99 rfl ?_
                refine x_goto (tgt := 8) d_Mo_rival_101 (by decide) ?_
                exact Wq.fg (ih (lkn T u 3) τ2 (fr0.tr fr2) (fun w hw => by have := hW.1.AW u hu.2 w hw; omega) hres) ⟨rfl, rfl, rfl, rfl, rfl, trivial⟩
              · refine x_goto (tgt := 89) d_Mo_rival_76 (by decide) ?_
                refine x_iload d_Mo_rival_89 rfl ?_
                exact x_ireturn d_Mo_rival_91 rfl (by first | rfl | decide) (by
                  have hres : some u = R := by
                    rw [← hr]
                    rw [rfR_c, if_neg h1, if_pos ⟨c59.trans hkr, by
                      first
                      | (rw [rvT, if_pos (bI_n0 c63)]; exact bI_n0 c73)
                      | (rw [rvT, if_neg (by rw [bI_0 c63]; decide)]; exact bI_n0 c86)⟩]
                  rw [← hres] at hQ
                  exact hQ τ2 (fr0.tr fr2))
        refine x_iload d_Mo_rival_8 rfl ?_
        refine x_iconst (v := -1) d_Mo_rival_10 (by decide) ?_
        refine x_icmp_eq (tgt := 104) d_Mo_rival_11 (by decide) (fun c11 => ?_) (fun c11 => ?_)
        · exact absurd c11 (nI_nm1 (by omega))
        · refine x_iload_n d_Mo_rival_14 rfl rfl ?_
          refine x_if_eq (tgt := 43) d_Mo_rival_15 (by decide) (fun c15 => ?_) (fun c15 => ?_)
          · first | refine x_aload_n d_Mo_rival_43 rfl rfl ?_ | refine x_aloadN_n d_Mo_rival_43 rfl rfl ?_ | refine x_aloadE_n d_Mo_rival_43 rfl rfl ?_ | refine x_aloadO_n d_Mo_rival_43 rfl rfl ?_
            refine x_getR d_Mo_rival_44 f_Mo_35 rfl (by first | exact hM.1 | exact hM.s rfl | assumption) (hM.r rfl) ?_
            refine x_iload d_Mo_rival_47 rfl ?_
            refine x_iald d_Mo_rival_49 (by first | exact hM.1 | exact hM.s rfl | assumption) (vp_in_nI (show u < 48 by omega) (by decide)) ?_
            rw [nI_clamp (by omega), (hR.2.2.2 u hu.2).1.1]
            refine x_iload_n d_Mo_rival_50 rfl rfl ?_
            refine x_if_eq (tgt := 58) d_Mo_rival_51 (by decide) (fun c51 => ?_) (fun c51 => ?_)
            · refine x_iconst (v := 4) d_Mo_rival_58 (by decide) ?_
              have h1 : ¬ (st = true ∧ kd T u ≠ 3 ∧ kd T u ≠ 7) := fun z => by
                first
                | (rw [bI_0 c15] at z; exact absurd z.1 (by decide))
                | exact z.2.1 c26
                | exact z.2.2 c38
              exact j59 _ (by
                first
                | (rw [bI_n0 c51]; rfl)
                | (rw [bI_0 c51]; rfl)) h1
            · refine x_iconst (v := 3) d_Mo_rival_54 (by decide) ?_
              refine x_goto (tgt := 59) d_Mo_rival_55 (by decide) ?_
              have h1 : ¬ (st = true ∧ kd T u ≠ 3 ∧ kd T u ≠ 7) := fun z => by
                first
                | (rw [bI_0 c15] at z; exact absurd z.1 (by decide))
                | exact z.2.1 c26
                | exact z.2.2 c38
              exact j59 _ (by
                first
                | (rw [bI_n0 c51]; rfl)
                | (rw [bI_0 c51]; rfl)) h1
          · first | refine x_aload_n d_Mo_rival_18 rfl rfl ?_ | refine x_aloadN_n d_Mo_rival_18 rfl rfl ?_ | refine x_aloadE_n d_Mo_rival_18 rfl rfl ?_ | refine x_aloadO_n d_Mo_rival_18 rfl rfl ?_
            refine x_getR d_Mo_rival_19 f_Mo_35 rfl (by first | exact hM.1 | exact hM.s rfl | assumption) (hM.r rfl) ?_
            refine x_iload d_Mo_rival_22 rfl ?_
            refine x_iald d_Mo_rival_24 (by first | exact hM.1 | exact hM.s rfl | assumption) (vp_in_nI (show u < 48 by omega) (by decide)) ?_
            rw [nI_clamp (by omega), (hR.2.2.2 u hu.2).1.1]
            refine x_iconst (v := 3) d_Mo_rival_25 (by decide) ?_
            refine x_icmp_eq (tgt := 43) d_Mo_rival_26 (by decide) (fun c26 => ?_) (fun c26 => ?_)
            · first | refine x_aload_n d_Mo_rival_43 rfl rfl ?_ | refine x_aloadN_n d_Mo_rival_43 rfl rfl ?_ | refine x_aloadE_n d_Mo_rival_43 rfl rfl ?_ | refine x_aloadO_n d_Mo_rival_43 rfl rfl ?_
              refine x_getR d_Mo_rival_44 f_Mo_35 rfl (by first | exact hM.1 | exact hM.s rfl | assumption) (hM.r rfl) ?_
              refine x_iload d_Mo_rival_47 rfl ?_
              refine x_iald d_Mo_rival_49 (by first | exact hM.1 | exact hM.s rfl | assumption) (vp_in_nI (show u < 48 by omega) (by decide)) ?_
              rw [nI_clamp (by omega), (hR.2.2.2 u hu.2).1.1]
              refine x_iload_n d_Mo_rival_50 rfl rfl ?_
              refine x_if_eq (tgt := 58) d_Mo_rival_51 (by decide) (fun c51 => ?_) (fun c51 => ?_)
              · refine x_iconst (v := 4) d_Mo_rival_58 (by decide) ?_
                have h1 : ¬ (st = true ∧ kd T u ≠ 3 ∧ kd T u ≠ 7) := fun z => by
                  first
                  | (rw [bI_0 c15] at z; exact absurd z.1 (by decide))
                  | exact z.2.1 c26
                  | exact z.2.2 c38
                exact j59 _ (by
                  first
                  | (rw [bI_n0 c51]; rfl)
                  | (rw [bI_0 c51]; rfl)) h1
              · refine x_iconst (v := 3) d_Mo_rival_54 (by decide) ?_
                refine x_goto (tgt := 59) d_Mo_rival_55 (by decide) ?_
                have h1 : ¬ (st = true ∧ kd T u ≠ 3 ∧ kd T u ≠ 7) := fun z => by
                  first
                  | (rw [bI_0 c15] at z; exact absurd z.1 (by decide))
                  | exact z.2.1 c26
                  | exact z.2.2 c38
                exact j59 _ (by
                  first
                  | (rw [bI_n0 c51]; rfl)
                  | (rw [bI_0 c51]; rfl)) h1
            · first | refine x_aload_n d_Mo_rival_29 rfl rfl ?_ | refine x_aloadN_n d_Mo_rival_29 rfl rfl ?_ | refine x_aloadE_n d_Mo_rival_29 rfl rfl ?_ | refine x_aloadO_n d_Mo_rival_29 rfl rfl ?_
              refine x_getR d_Mo_rival_30 f_Mo_35 rfl (by first | exact hM.1 | exact hM.s rfl | assumption) (hM.r rfl) ?_
              refine x_iload d_Mo_rival_33 rfl ?_
              refine x_iald d_Mo_rival_35 (by first | exact hM.1 | exact hM.s rfl | assumption) (vp_in_nI (show u < 48 by omega) (by decide)) ?_
              rw [nI_clamp (by omega), (hR.2.2.2 u hu.2).1.1]
              refine x_bipush (v := 7) d_Mo_rival_36 (by decide) ?_
              refine x_icmp_eq (tgt := 43) d_Mo_rival_38 (by decide) (fun c38 => ?_) (fun c38 => ?_)
              · first | refine x_aload_n d_Mo_rival_43 rfl rfl ?_ | refine x_aloadN_n d_Mo_rival_43 rfl rfl ?_ | refine x_aloadE_n d_Mo_rival_43 rfl rfl ?_ | refine x_aloadO_n d_Mo_rival_43 rfl rfl ?_
                refine x_getR d_Mo_rival_44 f_Mo_35 rfl (by first | exact hM.1 | exact hM.s rfl | assumption) (hM.r rfl) ?_
                refine x_iload d_Mo_rival_47 rfl ?_
                refine x_iald d_Mo_rival_49 (by first | exact hM.1 | exact hM.s rfl | assumption) (vp_in_nI (show u < 48 by omega) (by decide)) ?_
                rw [nI_clamp (by omega), (hR.2.2.2 u hu.2).1.1]
                refine x_iload_n d_Mo_rival_50 rfl rfl ?_
                refine x_if_eq (tgt := 58) d_Mo_rival_51 (by decide) (fun c51 => ?_) (fun c51 => ?_)
                · refine x_iconst (v := 4) d_Mo_rival_58 (by decide) ?_
                  have h1 : ¬ (st = true ∧ kd T u ≠ 3 ∧ kd T u ≠ 7) := fun z => by
                    first
                    | (rw [bI_0 c15] at z; exact absurd z.1 (by decide))
                    | exact z.2.1 c26
                    | exact z.2.2 c38
                  exact j59 _ (by
                    first
                    | (rw [bI_n0 c51]; rfl)
                    | (rw [bI_0 c51]; rfl)) h1
                · refine x_iconst (v := 3) d_Mo_rival_54 (by decide) ?_
                  refine x_goto (tgt := 59) d_Mo_rival_55 (by decide) ?_
                  have h1 : ¬ (st = true ∧ kd T u ≠ 3 ∧ kd T u ≠ 7) := fun z => by
                    first
                    | (rw [bI_0 c15] at z; exact absurd z.1 (by decide))
                    | exact z.2.1 c26
                    | exact z.2.2 c38
                  exact j59 _ (by
                    first
                    | (rw [bI_n0 c51]; rfl)
                    | (rw [bI_0 c51]; rfl)) h1
              · refine x_iconst (v := -1) d_Mo_rival_41 (by decide) ?_
                exact x_ireturn d_Mo_rival_42 rfl (by first | rfl | decide) (by
                  have hres : none = R := by
                    rw [← hr]
                    rw [rfR_c, if_pos ⟨bI_n0 c15, c26, c38⟩]
                  rw [← hres] at hQ
                  exact hQ τ fr0)
  refine Ct.of (lv := [some (rf G 391), some (.int (nI n)), some (.int (bI st)), some (.int (bI wi)), none]) (ll := []) rfl rfl (EN.cat (n := 1) ⟨rfl, rfl, rfl, rfl, trivial⟩ (Nat.le_of_ble_eq_true rfl)) ?_
  first | refine x_aload_n d_Mo_rival_0 rfl rfl ?_ | refine x_aloadN_n d_Mo_rival_0 rfl rfl ?_ | refine x_aloadE_n d_Mo_rival_0 rfl rfl ?_ | refine x_aloadO_n d_Mo_rival_0 rfl rfl ?_
  refine x_getR d_Mo_rival_1 f_Mo_38 rfl (by first | exact hM.1 | exact hM.s rfl | assumption) (hM.r rfl) ?_
  refine x_iload_n d_Mo_rival_4 rfl rfl ?_
  refine x_iald d_Mo_rival_5 (by first | exact hM.1 | exact hM.s rfl | assumption) (vp_in_nI (show n < 48 by omega) (by decide)) ?_
  rw [nI_clamp (by omega), (hR.2.2.2 n hn).1.2.1]
  refine x_istore d_Mo_rival_6 rfl ?_
  exact Wq.fg (lp n (lkn T n 3) σ FrI.rf (fun u hu => by have := hW.1.AW n hn u hu; omega) hRR) ⟨rfl, rfl, rfl, rfl, rfl, trivial⟩
