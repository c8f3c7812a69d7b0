/-! Runner.judge, go -/
def rBs (T : TS) (s x : Int32) : List Int32 := match rNode T s x with
  | some m => r100 T m
  | none => []
def rL (pt : Nat → Int32) (cs : Nat → Bool) (T : TS) (zs : List Int32) (a : Nat) : List Int32 := unf (sgP pt) zs (fun j => rVar T (zs.getD a (-1)) (caf cs zs a) (nI j)) a (up0 cs zs a) (ucN pt cs zs a) (rBs T (zs.getD a (-1)) (caf cs zs a))
theorem rNode_lt {T : TS} {s x : Int32} {m : Nat} (hB : BW T) (h : rNode T s x = some m) : m < tN T := by
  unfold rNode at h
  split at h
  · cases h
  · next n hn =>
    split at h
    · cases h
    · exact rBelow_lt hB (tGet_lt hn) h
theorem c_resUnfold {G : Ctx} {d : Nat} {Γ : List Sh} {σ : Mem} {Q : Option Value → List Sh → Mem → Prop} {r n a K rt nt : Nat} {ys ts : List Int32} {pt : Nat → Int32} {cs : Nat → Bool} {T : TS} (hRs : isRes Γ σ) (hTr : isTree Γ σ T) (hB : BW T) (hG : isSg Γ σ 27 pt cs) (hOK : SgOK pt cs) (hS : isSb Γ σ K) (hK : K < 1000000000) (hR : isRow Γ σ r n ys) (hT : isRow Γ σ rt nt ts) (hr : 386 ≤ r) (hrt : 386 ≤ rt) (hne : r ≠ rt) (ha : a < (ys.take n).length)
    (hQ : ∀ σ', isSb Γ σ' (K + 1) → isRow Γ σ' rt nt (rL pt cs T (ys.take n) a) → Fr [22, 23, 24, 25, 26, rt, rt + 1] σ σ' → Q none Γ σ') : Ct G M_Program_unfold (d + 3) 0 0 [rf G 385, rf G r, .int (nI a), rf G rt] Γ σ Q := by
  obtain ⟨k, β, hk, hSub⟩ := hS
  have hc := ucI_nat (zs := ys.take n) (a := a) hOK
  refine c_unfold_9 (pb := rBody T) (pv := fun j => rVar T ((ys.take n).getD a (-1)) (caf cs (ys.take n) a) (nI j)) (bs := rBs T ((ys.take n).getD a (-1)) (caf cs (ys.take n) a)) hRs.pr hG hSub (by omega) hR hT (by omega) (by omega) hne ha hc.1 (by omega) (fun Q2 s x h => c_ResidualProgram_bodyOf hRs hTr hB h) ?_ (fun Q2 τ j _ hf h => c_ResidualProgram_variableOf (hRs.P (hf.P (T := fun a => 22 ≤ a ∧ a ≤ 26) (by simp)) (by omega)) (hTr.P (hf.P (T := fun a => 22 ≤ a ∧ a ≤ 26) (by simp)) (fun a ha hb => by unfold inT at ha; omega)) hB h) (fun σ' β' h1 h2 h3 => hQ σ' ⟨k + 1, β', by omega, h1⟩ h2 h3)
  unfold rBs rBody
  rcases hb : rNode T ((ys.take n).getD a (-1)) (caf cs (ys.take n) a) with _ | i
  · rfl
  · have hi := rNode_lt hB hb
    obtain ⟨-, -, -, ⟨-, t4b⟩, -⟩ := id hTr
    have h6 := (hTr.nd (show i < 48 by omega)).2.2.2.2
    exact ⟨100, nrs (tD T i), h6, by show 136 + 5 * i ≠ rt; omega, by show 33 ≤ 136 + 5 * i; omega, rfl⟩
/-- how a run stands: uf says whether the call at a place unfolds -/
def jdg (cs : Nat → Bool) (uf : List Int32 → Nat → Bool) (y : List Int32) (m fuel : Nat) : Int32 := if 200 < y.length then 3 else match nxc (sgC cs) (y.take 200) with
  | none => 0
  | some a => if uf (y.take 200) a = false then 1 else if m < fuel then 4 else 2
def gRun (cs : Nat → Bool) (uf : List Int32 → Nat → Bool) (ul : List Int32 → Nat → List Int32) (fuel : Nat) : Nat → Nat → List Int32 → Int32 × Nat × List Int32
  | 0, m, y => (jdg cs uf y m fuel, m, y)
  | f + 1, m, y => if jdg cs uf y m fuel = 4 then (match nxc (sgC cs) (y.take 200) with
      | none => (jdg cs uf y m fuel, m, y)
      | some a => gRun cs uf ul fuel f (m + 1) (ul (y.take 200) a)) else (jdg cs uf y m fuel, m, y)
theorem jdg_4 {cs : Nat → Bool} {uf : List Int32 → Nat → Bool} {y : List Int32} {m fuel : Nat} (h : jdg cs uf y m fuel = 4) : m < fuel ∧ ∃ a, nxc (sgC cs) (y.take 200) = some a := by
  unfold jdg at h
  split at h
  · cases h
  · split at h
    · cases h
    · next a ha =>
      split at h
      · cases h
      · split at h
        · exact ⟨by assumption, a, ha⟩
        · cases h
theorem oI_ne {a : Nat} (h : a < 2 ^ 31) : ¬ nI a = -1 := fun z => by have := nI_nneg a h; rw [z] at this; exact this (by decide)
set_option maxRecDepth 10000 in
set_option maxHeartbeats 1000000 in
theorem c_judge_4 {G : Ctx} {d : Nat} {Γ : List Sh} {σ : Mem} {Q : Option Value → List Sh → Mem → Prop} {ra rb m fuel : Nat} {y : List Int32} {e : Int32} {pt : Nat → Int32} {cs : Nat → Bool} {bd : Nat → List Int32}  (hSrc : isSrc Γ σ 33 27 22 bd) (hR : isRn Γ σ ra rb y e m) (hG : isSg Γ σ 27 pt cs) (hm : m ≤ 1000) (hfu : fuel ≤ 1000) (hQ : Q (some (.int (jdg cs (ufs cs (fun s x => (sB bd s x).map (fun i => 33 + 2 + 2 * i))) y m fuel))) Γ σ) : Ct G M_Runner_judge (d + 4) 0 0 [rf G 386, rf G 33, .int (oI (nxc (sgC cs) (y.take 200))), .int (nI fuel)] Γ σ Q := by
  obtain ⟨z0, z1, z2, z3, z4, z5, z6, ⟨y2, z7⟩, z8, z9⟩ := id hR

  refine Ct.of (lv := [some (rf G 386), some (rf G 33), some (.int (oI (nxc (sgC cs) (y.take 200)))), some (.int (nI fuel))]) (ll := []) rfl rfl (EN.cat (n := 0) ⟨rfl, rfl, rfl, rfl, trivial⟩ (Nat.le_of_ble_eq_true rfl)) ?_
  first | refine x_aload_n d_Runner_judge_0 rfl rfl ?_ | refine x_aloadN_n d_Runner_judge_0 rfl rfl ?_ | refine x_aloadE_n d_Runner_judge_0 rfl rfl ?_ | refine x_aloadO_n d_Runner_judge_0 rfl rfl ?_
  refine x_getR d_Runner_judge_1 f_Runner_14 rfl (by exact z0) (z4) ?_
  refine x_callV0 d_Runner_judge_4 k_Row_isTooLong l_Runner_82 v_Row_isTooLong rfl s_Row_isTooLong (by exact z6.1) RoomE.m (Nat.le_of_ble_eq_true rfl) (c_Row_isTooLong z6 ?_)
  refine x_if_eq (tgt := 12) d_Runner_judge_7 (by decide) (fun c7 => ?_) (fun c7 => ?_)
  · have hlo : ¬ 200 < y.length := of_decide_eq_false (bI_0 c7)
    rcases hnx : nxc (sgC cs) (y.take 200) with _ | a
    · show Wq _ _ _ _ _ _ [_, _, some (.int (-1)), _] _ _ _ _
      refine x_iload_n d_Runner_judge_12 rfl rfl ?_
      refine x_iconst (v := -1) d_Runner_judge_13 (by decide) ?_
      refine x_icmp_ne (tgt := 19) d_Runner_judge_14 (by decide) (fun c14 => ?_) (fun c14 => ?_)
      · exact absurd rfl c14
      · refine x_iconst (v := 0) d_Runner_judge_17 (by decide) ?_
        exact x_ireturn d_Runner_judge_18 rfl rfl (by rw [jdg, if_neg hlo, hnx] at hQ; exact hQ)
    · have hax := nxc_lt hnx
      have htl := z6.tl
      show Wq _ _ _ _ _ _ [_, _, some (.int (nI a)), _] _ _ _ _
      refine x_iload_n d_Runner_judge_12 rfl rfl ?_
      refine x_iconst (v := -1) d_Runner_judge_13 (by decide) ?_
      refine x_icmp_ne (tgt := 19) d_Runner_judge_14 (by decide) (fun c14 => ?_) (fun c14 => ?_)
      · first | refine x_aload_n d_Runner_judge_19 rfl rfl ?_ | refine x_aloadN_n d_Runner_judge_19 rfl rfl ?_ | refine x_aloadE_n d_Runner_judge_19 rfl rfl ?_ | refine x_aloadO_n d_Runner_judge_19 rfl rfl ?_
        first | refine x_aload_n d_Runner_judge_20 rfl rfl ?_ | refine x_aloadN_n d_Runner_judge_20 rfl rfl ?_ | refine x_aloadE_n d_Runner_judge_20 rfl rfl ?_ | refine x_aloadO_n d_Runner_judge_20 rfl rfl ?_
        refine x_getR d_Runner_judge_21 f_Runner_14 rfl (by exact z0) (z4) ?_
        refine x_iload_n d_Runner_judge_24 rfl rfl ?_
        refine x_callU2 d_Runner_judge_25 k_Program_unfolds l_Runner_86 sm_Program_unfolds ⟨by decide, by decide⟩ (by decide +kernel) (Or.inr ⟨_, _, _, v_Program_unfolds, (k_Program_unfolds).1⟩) v_Program_unfolds rfl s4_Program_unfolds (by exact hSrc.1) RoomE.m (Nat.le_of_ble_eq_true rfl) (c_unfolds_4 hSrc.pr hG z6 (by omega) (fun Q2 s x h => c_SourceProgram_bodyOf hSrc h) ?_)
        refine x_if_ne (tgt := 33) d_Runner_judge_28 (by decide) (fun c28 => ?_) (fun c28 => ?_)
        · first | refine x_aload_n d_Runner_judge_33 rfl rfl ?_ | refine x_aloadN_n d_Runner_judge_33 rfl rfl ?_ | refine x_aloadE_n d_Runner_judge_33 rfl rfl ?_ | refine x_aloadO_n d_Runner_judge_33 rfl rfl ?_
          refine x_getI d_Runner_judge_34 f_Runner_27 rfl (by assumption) ?_
          refine x_iload_n d_Runner_judge_37 rfl rfl ?_
          rw [z9]
          refine x_icmp_lt (tgt := 45) d_Runner_judge_38 (by decide) (fun c38 => ?_) (fun c38 => ?_)
          · refine x_iconst (v := 4) d_Runner_judge_45 (by decide) ?_
            exact x_ireturn d_Runner_judge_46 rfl rfl (by rw [jdg, if_neg hlo, hnx] at hQ; simp only [if_neg (show ¬ (ufs cs (fun s x => (sB bd s x).map (fun i => 33 + 2 + 2 * i))) (y.take 200) a = false from by rw [Bool.not_eq_false]; exact bI_n0 c28)] at hQ; first | (rw [if_pos ((nI_ltI (by omega) (by omega)).mp c38)] at hQ; exact hQ) | (rw [if_neg (fun z => c38 (nI_lt z (by omega)))] at hQ; exact hQ))
          · refine x_iconst (v := 2) d_Runner_judge_41 (by decide) ?_
            refine x_goto (tgt := 46) d_Runner_judge_42 (by decide) ?_
            exact x_ireturn d_Runner_judge_46 rfl rfl (by rw [jdg, if_neg hlo, hnx] at hQ; simp only [if_neg (show ¬ (ufs cs (fun s x => (sB bd s x).map (fun i => 33 + 2 + 2 * i))) (y.take 200) a = false from by rw [Bool.not_eq_false]; exact bI_n0 c28)] at hQ; first | (rw [if_pos ((nI_ltI (by omega) (by omega)).mp c38)] at hQ; exact hQ) | (rw [if_neg (fun z => c38 (nI_lt z (by omega)))] at hQ; exact hQ))
        · refine x_iconst (v := 1) d_Runner_judge_31 (by decide) ?_
          exact x_ireturn d_Runner_judge_32 rfl rfl (by rw [jdg, if_neg hlo, hnx] at hQ; simp only [if_pos (show (ufs cs (fun s x => (sB bd s x).map (fun i => 33 + 2 + 2 * i))) (y.take 200) a = false from bI_0 c28)] at hQ; exact hQ)
      · exact absurd c14 (oI_ne (by omega))
  · refine x_iconst (v := 3) d_Runner_judge_10 (by decide) ?_
    exact x_ireturn d_Runner_judge_11 rfl rfl (by rw [jdg, if_pos (of_decide_eq_true (bI_n0 c7))] at hQ; exact hQ)
set_option maxRecDepth 10000 in
set_option maxHeartbeats 1000000 in
theorem c_go_4 {G : Ctx} {d : Nat} {Γ : List Sh} {σ : Mem} {Q : Option Value → List Sh → Mem → Prop} {ra rb m fuel K : Nat} {y : List Int32} {e : Int32} {pt : Nat → Int32} {cs : Nat → Bool} {bd : Nat → List Int32}  (hSrc : isSrc Γ σ 33 27 22 bd) (hR : isRn Γ σ ra rb y e m) (hG : isSg Γ σ 27 pt cs) (hOK : SgOK pt cs) (hS : isSb Γ σ K) (hK : K + 1000 < 1000000000) (hfu : fuel ≤ 500) (hQ : ∀ σ' ra' rb', isRn Γ σ' ra' rb' (gRun cs (ufs cs (fun s x => (sB bd s x).map (fun i => 33 + 2 + 2 * i))) (uL pt cs bd) fuel fuel 0 y).2.2 (gRun cs (ufs cs (fun s x => (sB bd s x).map (fun i => 33 + 2 + 2 * i))) (uL pt cs bd) fuel fuel 0 y).1 (gRun cs (ufs cs (fun s x => (sB bd s x).map (fun i => 33 + 2 + 2 * i))) (uL pt cs bd) fuel fuel 0 y).2.1 → isSb Γ σ' (K + 1000) → FrP (fun a => (22 ≤ a ∧ a ≤ 26) ∨ inR a) σ σ' → Q (some (.int (gRun cs (ufs cs (fun s x => (sB bd s x).map (fun i => 33 + 2 + 2 * i))) (uL pt cs bd) fuel fuel 0 y).1)) Γ σ') : Ct G M_Runner_go (d + 5) 0 0 [rf G 386, rf G 33, .int (nI fuel)] Γ σ Q := by
  obtain ⟨z0, z1, z2, z3, z4, z5, z6, ⟨y2, z7⟩, z8, z9⟩ := id hR
  have lp : ∀ (k : Nat) (m0 : Nat) (y0 : List Int32) (e0 : Int32) (ra0 rb0 : Nat) (τ : Mem), m0 + k = fuel → (gRun cs (ufs cs (fun s x => (sB bd s x).map (fun i => 33 + 2 + 2 * i))) (uL pt cs bd) fuel k m0 y0) = (gRun cs (ufs cs (fun s x => (sB bd s x).map (fun i => 33 + 2 + 2 * i))) (uL pt cs bd) fuel fuel 0 y) → isRn Γ τ ra0 rb0 y0 e0 m0 → isSb Γ τ (K + m0) → FrP (fun a => (22 ≤ a ∧ a ≤ 26) ∨ inR a) σ τ → Wq G M_Runner_go (Em G (d + 5) 0 0 Q) 0 0 5 [some (rf G 386), some (rf G 33), some (.int (nI fuel)), none, none] [] [] Γ τ := by
    intro k
    induction k with
    | zero =>
      intro m0 y0 e0 ra0 rb0 τ h1 h2 R1 S1 f0
      have G1 := hG.P f0 (by unfold inR; omega) (by unfold inR; omega) (by unfold inR; omega)
      have Sr1 := hSrc.P f0 (fun a h1 h2 => by unfold inR; omega)
      obtain ⟨z0, z1, z2, z3, z4, z5, z6, ⟨y2, z7⟩, z8, z9⟩ := id R1
      have hd : (ra0 = 387 ∧ rb0 = 389) ∨ (ra0 = 389 ∧ rb0 = 387) := z3
      first | refine x_aload_n d_Runner_go_5 rfl rfl ?_ | refine x_aloadN_n d_Runner_go_5 rfl rfl ?_ | refine x_aloadE_n d_Runner_go_5 rfl rfl ?_ | refine x_aloadO_n d_Runner_go_5 rfl rfl ?_
      refine x_getI d_Runner_go_6 f_Runner_27 rfl (by assumption) ?_
      refine x_iload_n d_Runner_go_9 rfl rfl ?_
      rw [z9]
      refine x_icmp_gt (tgt := 95) d_Runner_go_10 (by decide) (fun c10 => ?_) (fun c10 => ?_)
      · exact absurd c10 (nI_nlt (by omega) (by omega))
      · first | refine x_aload_n d_Runner_go_13 rfl rfl ?_ | refine x_aloadN_n d_Runner_go_13 rfl rfl ?_ | refine x_aloadE_n d_Runner_go_13 rfl rfl ?_ | refine x_aloadO_n d_Runner_go_13 rfl rfl ?_
        refine x_getR d_Runner_go_14 f_Runner_30 rfl (by exact z0) (z1) ?_
        first | refine x_aload_n d_Runner_go_17 rfl rfl ?_ | refine x_aloadN_n d_Runner_go_17 rfl rfl ?_ | refine x_aloadE_n d_Runner_go_17 rfl rfl ?_ | refine x_aloadO_n d_Runner_go_17 rfl rfl ?_
        refine x_getR d_Runner_go_18 f_Runner_14 rfl (by exact z0) (z4) ?_
        refine x_callV1 d_Runner_go_21 k_Signs_nextCall l_Runner_58 v_Signs_nextCall rfl s_Signs_nextCall (by exact G1.1.1) RoomE.m (Nat.le_of_ble_eq_true rfl) (c_Signs_nextCall G1 z6 ?_)
        refine x_istore_n d_Runner_go_24 rfl rfl ?_
        first | refine x_aload_n d_Runner_go_25 rfl rfl ?_ | refine x_aloadN_n d_Runner_go_25 rfl rfl ?_ | refine x_aloadE_n d_Runner_go_25 rfl rfl ?_ | refine x_aloadO_n d_Runner_go_25 rfl rfl ?_
        first | refine x_aload_n d_Runner_go_26 rfl rfl ?_ | refine x_aloadN_n d_Runner_go_26 rfl rfl ?_ | refine x_aloadE_n d_Runner_go_26 rfl rfl ?_ | refine x_aloadO_n d_Runner_go_26 rfl rfl ?_
        first | refine x_aload_n d_Runner_go_27 rfl rfl ?_ | refine x_aloadN_n d_Runner_go_27 rfl rfl ?_ | refine x_aloadE_n d_Runner_go_27 rfl rfl ?_ | refine x_aloadO_n d_Runner_go_27 rfl rfl ?_
        refine x_iload_n d_Runner_go_28 rfl rfl ?_
        refine x_iload_n d_Runner_go_29 rfl rfl ?_
        refine x_callV3 d_Runner_go_30 k_Runner_judge l_Runner_64 v_Runner_judge rfl s_Runner_judge (by exact z0) RoomE.m (Nat.le_of_ble_eq_true rfl) (c_judge_4 Sr1 R1 G1 (by omega) (by omega) ?_)
        refine x_putI d_Runner_go_33 (w_Runner_m_23 _) rfl (by first | rfl | decide) (by first | rfl | decide) (by exact z0) ?_
        have ff : Fr [386] τ (wI τ 386 4 (jdg cs (ufs cs (fun s x => (sB bd s x).map (fun i => 33 + 2 + 2 * i))) y0 m0 fuel)) := Fr.rf.wI (by simp)
        have R2 : isRn Γ (wI τ 386 4 (jdg cs (ufs cs (fun s x => (sB bd s x).map (fun i => 33 + 2 + 2 * i))) y0 m0 fuel)) ra0 rb0 y0 (jdg cs (ufs cs (fun s x => (sB bd s x).map (fun i => 33 + 2 + 2 * i))) y0 m0 fuel) m0 := ⟨z0, z1, z2, z3, z4, z5, z6.Fr ff (by simp; omega) (by simp; omega), ⟨y2, z7.Fr ff (by simp; omega) (by simp; omega)⟩, wI_s, by rw [wI_j (by decide)]; exact z9⟩
        first | refine x_aload_n d_Runner_go_36 rfl rfl ?_ | refine x_aloadN_n d_Runner_go_36 rfl rfl ?_ | refine x_aloadE_n d_Runner_go_36 rfl rfl ?_ | refine x_aloadO_n d_Runner_go_36 rfl rfl ?_
        refine x_getI d_Runner_go_37 f_Runner_23 rfl (by assumption) ?_
        refine x_iconst (v := 4) d_Runner_go_40 (by decide) ?_
        rw [show (wI τ 386 4 (jdg cs (ufs cs (fun s x => (sB bd s x).map (fun i => 33 + 2 + 2 * i))) y0 m0 fuel)).1 386 4 = (jdg cs (ufs cs (fun s x => (sB bd s x).map (fun i => 33 + 2 + 2 * i))) y0 m0 fuel) from wI_s]
        refine x_icmp_eq (tgt := 49) d_Runner_go_41 (by decide) (fun c41 => ?_) (fun c41 => ?_)
        · exact absurd (jdg_4 c41).1 (by omega)
        · first | refine x_aload_n d_Runner_go_44 rfl rfl ?_ | refine x_aloadN_n d_Runner_go_44 rfl rfl ?_ | refine x_aloadE_n d_Runner_go_44 rfl rfl ?_ | refine x_aloadO_n d_Runner_go_44 rfl rfl ?_
          refine x_getI d_Runner_go_45 f_Runner_23 rfl (by assumption) ?_
          exact x_ireturn d_Runner_go_48 rfl rfl (by rw [show (wI τ 386 4 (jdg cs (ufs cs (fun s x => (sB bd s x).map (fun i => 33 + 2 + 2 * i))) y0 m0 fuel)).1 386 4 = (jdg cs (ufs cs (fun s x => (sB bd s x).map (fun i => 33 + 2 + 2 * i))) y0 m0 fuel) from wI_s]; have e2 : (gRun cs (ufs cs (fun s x => (sB bd s x).map (fun i => 33 + 2 + 2 * i))) (uL pt cs bd) fuel 0 m0 y0) = ((jdg cs (ufs cs (fun s x => (sB bd s x).map (fun i => 33 + 2 + 2 * i))) y0 m0 fuel), m0, y0) := rfl; rw [e2] at h2; have hq := hQ _ ra0 rb0 (by rw [← h2]; exact R2) (S1.P (ff.P (T := fun a => a = 386) (by simp)) (fun a h1 h2 h3 => by omega) |>.mono (by omega)) (f0.tr (ff.P (by simp; unfold inR; omega))); rw [← h2] at hq; exact hq)
    | succ k ih =>
      intro m0 y0 e0 ra0 rb0 τ h1 h2 R1 S1 f0
      have G1 := hG.P f0 (by unfold inR; omega) (by unfold inR; omega) (by unfold inR; omega)
      have Sr1 := hSrc.P f0 (fun a h1 h2 => by unfold inR; omega)
      obtain ⟨z0, z1, z2, z3, z4, z5, z6, ⟨y2, z7⟩, z8, z9⟩ := id R1
      have hd : (ra0 = 387 ∧ rb0 = 389) ∨ (ra0 = 389 ∧ rb0 = 387) := z3
      first | refine x_aload_n d_Runner_go_5 rfl rfl ?_ | refine x_aloadN_n d_Runner_go_5 rfl rfl ?_ | refine x_aloadE_n d_Runner_go_5 rfl rfl ?_ | refine x_aloadO_n d_Runner_go_5 rfl rfl ?_
      refine x_getI d_Runner_go_6 f_Runner_27 rfl (by assumption) ?_
      refine x_iload_n d_Runner_go_9 rfl rfl ?_
      rw [z9]
      refine x_icmp_gt (tgt := 95) d_Runner_go_10 (by decide) (fun c10 => ?_) (fun c10 => ?_)
      · exact absurd c10 (nI_nlt (by omega) (by omega))
      · first | refine x_aload_n d_Runner_go_13 rfl rfl ?_ | refine x_aloadN_n d_Runner_go_13 rfl rfl ?_ | refine x_aloadE_n d_Runner_go_13 rfl rfl ?_ | refine x_aloadO_n d_Runner_go_13 rfl rfl ?_
        refine x_getR d_Runner_go_14 f_Runner_30 rfl (by exact z0) (z1) ?_
        first | refine x_aload_n d_Runner_go_17 rfl rfl ?_ | refine x_aloadN_n d_Runner_go_17 rfl rfl ?_ | refine x_aloadE_n d_Runner_go_17 rfl rfl ?_ | refine x_aloadO_n d_Runner_go_17 rfl rfl ?_
        refine x_getR d_Runner_go_18 f_Runner_14 rfl (by exact z0) (z4) ?_
        refine x_callV1 d_Runner_go_21 k_Signs_nextCall l_Runner_58 v_Signs_nextCall rfl s_Signs_nextCall (by exact G1.1.1) RoomE.m (Nat.le_of_ble_eq_true rfl) (c_Signs_nextCall G1 z6 ?_)
        refine x_istore_n d_Runner_go_24 rfl rfl ?_
        first | refine x_aload_n d_Runner_go_25 rfl rfl ?_ | refine x_aloadN_n d_Runner_go_25 rfl rfl ?_ | refine x_aloadE_n d_Runner_go_25 rfl rfl ?_ | refine x_aloadO_n d_Runner_go_25 rfl rfl ?_
        first | refine x_aload_n d_Runner_go_26 rfl rfl ?_ | refine x_aloadN_n d_Runner_go_26 rfl rfl ?_ | refine x_aloadE_n d_Runner_go_26 rfl rfl ?_ | refine x_aloadO_n d_Runner_go_26 rfl rfl ?_
        first | refine x_aload_n d_Runner_go_27 rfl rfl ?_ | refine x_aloadN_n d_Runner_go_27 rfl rfl ?_ | refine x_aloadE_n d_Runner_go_27 rfl rfl ?_ | refine x_aloadO_n d_Runner_go_27 rfl rfl ?_
        refine x_iload_n d_Runner_go_28 rfl rfl ?_
        refine x_iload_n d_Runner_go_29 rfl rfl ?_
        refine x_callV3 d_Runner_go_30 k_Runner_judge l_Runner_64 v_Runner_judge rfl s_Runner_judge (by exact z0) RoomE.m (Nat.le_of_ble_eq_true rfl) (c_judge_4 Sr1 R1 G1 (by omega) (by omega) ?_)
        refine x_putI d_Runner_go_33 (w_Runner_m_23 _) rfl (by first | rfl | decide) (by first | rfl | decide) (by exact z0) ?_
        have ff : Fr [386] τ (wI τ 386 4 (jdg cs (ufs cs (fun s x => (sB bd s x).map (fun i => 33 + 2 + 2 * i))) y0 m0 fuel)) := Fr.rf.wI (by simp)
        have R2 : isRn Γ (wI τ 386 4 (jdg cs (ufs cs (fun s x => (sB bd s x).map (fun i => 33 + 2 + 2 * i))) y0 m0 fuel)) ra0 rb0 y0 (jdg cs (ufs cs (fun s x => (sB bd s x).map (fun i => 33 + 2 + 2 * i))) y0 m0 fuel) m0 := ⟨z0, z1, z2, z3, z4, z5, z6.Fr ff (by simp; omega) (by simp; omega), ⟨y2, z7.Fr ff (by simp; omega) (by simp; omega)⟩, wI_s, by rw [wI_j (by decide)]; exact z9⟩
        first | refine x_aload_n d_Runner_go_36 rfl rfl ?_ | refine x_aloadN_n d_Runner_go_36 rfl rfl ?_ | refine x_aloadE_n d_Runner_go_36 rfl rfl ?_ | refine x_aloadO_n d_Runner_go_36 rfl rfl ?_
        refine x_getI d_Runner_go_37 f_Runner_23 rfl (by assumption) ?_
        refine x_iconst (v := 4) d_Runner_go_40 (by decide) ?_
        rw [show (wI τ 386 4 (jdg cs (ufs cs (fun s x => (sB bd s x).map (fun i => 33 + 2 + 2 * i))) y0 m0 fuel)).1 386 4 = (jdg cs (ufs cs (fun s x => (sB bd s x).map (fun i => 33 + 2 + 2 * i))) y0 m0 fuel) from wI_s]
        refine x_icmp_eq (tgt := 49) d_Runner_go_41 (by decide) (fun c41 => ?_) (fun c41 => ?_)
        · obtain ⟨hmf, a, hnx⟩ := jdg_4 c41
          have hax := nxc_lt hnx
          have hal := z6.tl
          first | refine x_aload_n d_Runner_go_49 rfl rfl ?_ | refine x_aloadN_n d_Runner_go_49 rfl rfl ?_ | refine x_aloadE_n d_Runner_go_49 rfl rfl ?_ | refine x_aloadO_n d_Runner_go_49 rfl rfl ?_
          first | refine x_aload_n d_Runner_go_50 rfl rfl ?_ | refine x_aloadN_n d_Runner_go_50 rfl rfl ?_ | refine x_aloadE_n d_Runner_go_50 rfl rfl ?_ | refine x_aloadO_n d_Runner_go_50 rfl rfl ?_
          refine x_getR d_Runner_go_51 f_Runner_14 rfl (by exact z0) (z4) ?_
          rw [hnx]
          refine x_iload_n d_Runner_go_54 rfl rfl ?_
          first | refine x_aload_n d_Runner_go_55 rfl rfl ?_ | refine x_aloadN_n d_Runner_go_55 rfl rfl ?_ | refine x_aloadE_n d_Runner_go_55 rfl rfl ?_ | refine x_aloadO_n d_Runner_go_55 rfl rfl ?_
          refine x_getR d_Runner_go_56 f_Runner_20 rfl (by exact z0) (z5) ?_
          refine x_callU3 d_Runner_go_59 k_Program_unfold l_Runner_68 sm_Program_unfold ⟨by decide, by decide⟩ (by decide +kernel) (Or.inr ⟨_, _, _, v_Program_unfold, (k_Program_unfold).1⟩) v_Program_unfold rfl s4_Program_unfold (by exact hSrc.1) RoomE.m (Nat.le_of_ble_eq_true rfl) (c_srcUnfold (Sr1.P (ff.P (T := fun a => a = 386) (by simp)) (fun a h1 h2 => by omega)) (G1.Fr ff (by simp) (by simp) (by simp)) hOK (S1.P (ff.P (T := fun a => a = 386) (by simp)) (fun a h1 h2 h3 => by omega)) (by omega) R2.2.2.2.2.2.2.1 (z7.Fr ff (by simp; omega) (by simp; omega)) (by omega) (by omega) (by omega) hax.1 (fun τ2 S2 r2 f2 => ?_))
          first | refine x_aload_n d_Runner_go_62 rfl rfl ?_ | refine x_aloadN_n d_Runner_go_62 rfl rfl ?_ | refine x_aloadE_n d_Runner_go_62 rfl rfl ?_ | refine x_aloadO_n d_Runner_go_62 rfl rfl ?_
          refine x_getR d_Runner_go_63 f_Runner_14 rfl (by exact z0) (by rw [(f2 386 (by simp; omega)).2.1]; exact z4) ?_
          first | refine x_astore d_Runner_go_66 rfl ?_ | refine x_astoreN d_Runner_go_66 rfl ?_ | refine x_astoreE d_Runner_go_66 rfl ?_ | refine x_astoreO d_Runner_go_66 rfl ?_
          first | refine x_aload_n d_Runner_go_68 rfl rfl ?_ | refine x_aloadN_n d_Runner_go_68 rfl rfl ?_ | refine x_aloadE_n d_Runner_go_68 rfl rfl ?_ | refine x_aloadO_n d_Runner_go_68 rfl rfl ?_
          first | refine x_aload_n d_Runner_go_69 rfl rfl ?_ | refine x_aloadN_n d_Runner_go_69 rfl rfl ?_ | refine x_aloadE_n d_Runner_go_69 rfl rfl ?_ | refine x_aloadO_n d_Runner_go_69 rfl rfl ?_
          refine x_getR d_Runner_go_70 f_Runner_20 rfl (by exact z0) (by rw [(f2 386 (by simp; omega)).2.1]; exact z5) ?_
          first | refine x_putR d_Runner_go_73 (w_Runner_m_14 _) rfl (by exact z0) ?_ | refine x_putN d_Runner_go_73 (w_Runner_m_14 _) rfl (by exact z0) ?_ | refine x_putQ d_Runner_go_73 (w_Runner_m_14 _) rfl (by exact z0) ?_
          first | refine x_aload_n d_Runner_go_76 rfl rfl ?_ | refine x_aloadN_n d_Runner_go_76 rfl rfl ?_ | refine x_aloadE_n d_Runner_go_76 rfl rfl ?_ | refine x_aloadO_n d_Runner_go_76 rfl rfl ?_
          first | refine x_aload d_Runner_go_77 rfl ?_ | refine x_aloadN d_Runner_go_77 rfl ?_ | refine x_aloadE d_Runner_go_77 rfl ?_ | refine x_aloadO d_Runner_go_77 rfl ?_
          first | refine x_putR d_Runner_go_79 (w_Runner_m_20 _) rfl (by exact z0) ?_ | refine x_putN d_Runner_go_79 (w_Runner_m_20 _) rfl (by exact z0) ?_ | refine x_putQ d_Runner_go_79 (w_Runner_m_20 _) rfl (by exact z0) ?_
          first | refine x_aload_n d_Runner_go_82 rfl rfl ?_ | refine x_aloadN_n d_Runner_go_82 rfl rfl ?_ | refine x_aloadE_n d_Runner_go_82 rfl rfl ?_ | refine x_aloadO_n d_Runner_go_82 rfl rfl ?_
          refine x_dup d_Runner_go_83 rfl ?_
          refine x_getI d_Runner_go_84 f_Runner_27 rfl (by exact z0) ?_
          refine x_iconst (v := 1) d_Runner_go_87 (by decide) ?_
          refine x_iadd d_Runner_go_88 ?_
          refine x_putI d_Runner_go_89 (w_Runner_m_27 _) rfl (by first | rfl | decide) (by first | rfl | decide) (by exact z0) ?_
          refine x_goto (tgt := 5) d_Runner_go_92 (by decide) ?_
          have e84 : (wR (wR τ2 386 2 (some rb0)) 386 3 (some ra0)).1 386 5 = nI m0 := by
            show τ2.1 386 5 = nI m0
            rw [(f2 386 (by simp; omega)).1]
            exact R2.2.2.2.2.2.2.2.2.2
          rw [e84, nI_1]
          have ff3 : Fr [386] τ2 (wI (wR (wR τ2 386 2 (some rb0)) 386 3 (some ra0)) 386 5 (nI (m0 + 1))) := ((Fr.rf.wR (by simp)).wR (by simp)).wI (by simp)
          have R3 : isRn Γ (wI (wR (wR τ2 386 2 (some rb0)) 386 3 (some ra0)) 386 5 (nI (m0 + 1))) rb0 ra0 ((uL pt cs bd) (y0.take 200) a) (jdg cs (ufs cs (fun s x => (sB bd s x).map (fun i => 33 + 2 + 2 * i))) y0 m0 fuel) (m0 + 1) := by
            refine ⟨z0, ?_, ?_, ?_, ?_, ?_, r2.Fr ff3 (by simp; omega) (by simp; omega), ⟨y0, (R2.2.2.2.2.2.2.1.Fr f2 (by simp; omega) (by simp; omega)).Fr ff3 (by simp; omega) (by simp; omega)⟩, ?_, wI_s⟩
            · show (wR (wR τ2 386 2 (some rb0)) 386 3 (some ra0)).2.1 386 0 = _
              rw [wR_j (by decide), wR_j (by decide), (f2 386 (by simp; omega)).2.1]; exact z1
            · show (wR (wR τ2 386 2 (some rb0)) 386 3 (some ra0)).2.1 386 1 = _
              rw [wR_j (by decide), wR_j (by decide), (f2 386 (by simp; omega)).2.1]; exact z2
            · unfold swp; omega
            · show (wR (wR τ2 386 2 (some rb0)) 386 3 (some ra0)).2.1 386 2 = _
              rw [wR_j (by decide), wR_s]
            · show (wR (wR τ2 386 2 (some rb0)) 386 3 (some ra0)).2.1 386 3 = _
              rw [wR_s]
            · rw [wI_j (by decide)]
              show τ2.1 386 4 = _
              rw [(f2 386 (by simp; omega)).1]
              exact wI_s
          exact Wq.fg (ih (m0 + 1) _ _ rb0 ra0 _ (by omega) (by rw [gRun, if_pos c41, hnx] at h2; exact h2) R3 ((S2.P (ff3.P (T := fun a => a = 386) (by simp)) (fun a h1 h2 h3 => by omega)).mono (by omega)) (((f0.tr (ff.P (by simp; unfold inR; omega))).tr (f2.P (by simp; unfold inR; omega))).tr (ff3.P (by simp; unfold inR; omega)))) ⟨rfl, rfl, rfl, trivial⟩
        · first | refine x_aload_n d_Runner_go_44 rfl rfl ?_ | refine x_aloadN_n d_Runner_go_44 rfl rfl ?_ | refine x_aloadE_n d_Runner_go_44 rfl rfl ?_ | refine x_aloadO_n d_Runner_go_44 rfl rfl ?_
          refine x_getI d_Runner_go_45 f_Runner_23 rfl (by assumption) ?_
          exact x_ireturn d_Runner_go_48 rfl rfl (by rw [show (wI τ 386 4 (jdg cs (ufs cs (fun s x => (sB bd s x).map (fun i => 33 + 2 + 2 * i))) y0 m0 fuel)).1 386 4 = (jdg cs (ufs cs (fun s x => (sB bd s x).map (fun i => 33 + 2 + 2 * i))) y0 m0 fuel) from wI_s]; have e2 : (gRun cs (ufs cs (fun s x => (sB bd s x).map (fun i => 33 + 2 + 2 * i))) (uL pt cs bd) fuel (k + 1) m0 y0) = ((jdg cs (ufs cs (fun s x => (sB bd s x).map (fun i => 33 + 2 + 2 * i))) y0 m0 fuel), m0, y0) := (by rw [gRun, if_neg c41]); rw [e2] at h2; have hq := hQ _ ra0 rb0 (by rw [← h2]; exact R2) (S1.P (ff.P (T := fun a => a = 386) (by simp)) (fun a h1 h2 h3 => by omega) |>.mono (by omega)) (f0.tr (ff.P (by simp; unfold inR; omega))); rw [← h2] at hq; exact hq)
  refine Ct.of (lv := [some (rf G 386), some (rf G 33), some (.int (nI fuel)), none, none]) (ll := []) rfl rfl (EN.cat (n := 2) ⟨rfl, rfl, rfl, trivial⟩ (Nat.le_of_ble_eq_true rfl)) ?_
  first | refine x_aload_n d_Runner_go_0 rfl rfl ?_ | refine x_aloadN_n d_Runner_go_0 rfl rfl ?_ | refine x_aloadE_n d_Runner_go_0 rfl rfl ?_ | refine x_aloadO_n d_Runner_go_0 rfl rfl ?_
  refine x_iconst (v := 0) d_Runner_go_1 (by decide) ?_
  refine x_putI d_Runner_go_2 (w_Runner_m_27 _) rfl (by first | rfl | decide) (by first | rfl | decide) (by exact z0) ?_
  have ff : Fr [386] σ (wI σ 386 5 0) := Fr.rf.wI (by simp)
  have hd : (ra = 387 ∧ rb = 389) ∨ (ra = 389 ∧ rb = 387) := z3
  exact Wq.fg (lp fuel 0 y e ra rb _ (by omega) rfl ⟨z0, z1, z2, z3, z4, z5, z6.Fr ff (by simp; omega) (by simp; omega), ⟨y2, z7.Fr ff (by simp; omega) (by simp; omega)⟩, by rw [wI_j (by decide)]; exact z8, by rw [wI_s, ← nI_0]⟩ (hS.P (ff.P (T := fun a => a = 386) (by simp)) (fun a h1 h2 h3 => by omega)) (ff.P (by simp; unfold inR; omega))) ⟨rfl, rfl, rfl, trivial⟩
set_option maxRecDepth 10000 in
set_option maxHeartbeats 1000000 in
theorem c_judge_9 {G : Ctx} {d : Nat} {Γ : List Sh} {σ : Mem} {Q : Option Value → List Sh → Mem → Prop} {ra rb m fuel : Nat} {y : List Int32} {e : Int32} {pt : Nat → Int32} {cs : Nat → Bool} {T : TS}  (hRs : isRes Γ σ) (hTr : isTree Γ σ T) (hB : BW T) (hR : isRn Γ σ ra rb y e m) (hG : isSg Γ σ 27 pt cs) (hm : m ≤ 1000) (hfu : fuel ≤ 1000) (hQ : Q (some (.int (jdg cs (ufs cs (rBody T)) y m fuel))) Γ σ) : Ct G M_Runner_judge (d + 4) 0 0 [rf G 386, rf G 385, .int (oI (nxc (sgC cs) (y.take 200))), .int (nI fuel)] Γ σ Q := by
  obtain ⟨z0, z1, z2, z3, z4, z5, z6, ⟨y2, z7⟩, z8, z9⟩ := id hR

  refine Ct.of (lv := [some (rf G 386), some (rf G 385), some (.int (oI (nxc (sgC cs) (y.take 200)))), some (.int (nI fuel))]) (ll := []) rfl rfl (EN.cat (n := 0) ⟨rfl, rfl, rfl, rfl, trivial⟩ (Nat.le_of_ble_eq_true rfl)) ?_
  first | refine x_aload_n d_Runner_judge_0 rfl rfl ?_ | refine x_aloadN_n d_Runner_judge_0 rfl rfl ?_ | refine x_aloadE_n d_Runner_judge_0 rfl rfl ?_ | refine x_aloadO_n d_Runner_judge_0 rfl rfl ?_
  refine x_getR d_Runner_judge_1 f_Runner_14 rfl (by exact z0) (z4) ?_
  refine x_callV0 d_Runner_judge_4 k_Row_isTooLong l_Runner_82 v_Row_isTooLong rfl s_Row_isTooLong (by exact z6.1) RoomE.m (Nat.le_of_ble_eq_true rfl) (c_Row_isTooLong z6 ?_)
  refine x_if_eq (tgt := 12) d_Runner_judge_7 (by decide) (fun c7 => ?_) (fun c7 => ?_)
  · have hlo : ¬ 200 < y.length := of_decide_eq_false (bI_0 c7)
    rcases hnx : nxc (sgC cs) (y.take 200) with _ | a
    · show Wq _ _ _ _ _ _ [_, _, some (.int (-1)), _] _ _ _ _
      refine x_iload_n d_Runner_judge_12 rfl rfl ?_
      refine x_iconst (v := -1) d_Runner_judge_13 (by decide) ?_
      refine x_icmp_ne (tgt := 19) d_Runner_judge_14 (by decide) (fun c14 => ?_) (fun c14 => ?_)
      · exact absurd rfl c14
      · refine x_iconst (v := 0) d_Runner_judge_17 (by decide) ?_
        exact x_ireturn d_Runner_judge_18 rfl rfl (by rw [jdg, if_neg hlo, hnx] at hQ; exact hQ)
    · have hax := nxc_lt hnx
      have htl := z6.tl
      show Wq _ _ _ _ _ _ [_, _, some (.int (nI a)), _] _ _ _ _
      refine x_iload_n d_Runner_judge_12 rfl rfl ?_
      refine x_iconst (v := -1) d_Runner_judge_13 (by decide) ?_
      refine x_icmp_ne (tgt := 19) d_Runner_judge_14 (by decide) (fun c14 => ?_) (fun c14 => ?_)
      · first | refine x_aload_n d_Runner_judge_19 rfl rfl ?_ | refine x_aloadN_n d_Runner_judge_19 rfl rfl ?_ | refine x_aloadE_n d_Runner_judge_19 rfl rfl ?_ | refine x_aloadO_n d_Runner_judge_19 rfl rfl ?_
        first | refine x_aload_n d_Runner_judge_20 rfl rfl ?_ | refine x_aloadN_n d_Runner_judge_20 rfl rfl ?_ | refine x_aloadE_n d_Runner_judge_20 rfl rfl ?_ | refine x_aloadO_n d_Runner_judge_20 rfl rfl ?_
        refine x_getR d_Runner_judge_21 f_Runner_14 rfl (by exact z0) (z4) ?_
        refine x_iload_n d_Runner_judge_24 rfl rfl ?_
        refine x_callU2 d_Runner_judge_25 k_Program_unfolds l_Runner_86 sm_Program_unfolds ⟨by decide, by decide⟩ (by decide +kernel) (Or.inr ⟨_, _, _, v_Program_unfolds, (k_Program_unfolds).1⟩) v_Program_unfolds rfl s9_Program_unfolds (by exact hRs.1) RoomE.m (Nat.le_of_ble_eq_true rfl) (c_unfolds_9 hRs.pr hG z6 (by omega) (fun Q2 s x h => c_ResidualProgram_bodyOf hRs hTr hB h) ?_)
        refine x_if_ne (tgt := 33) d_Runner_judge_28 (by decide) (fun c28 => ?_) (fun c28 => ?_)
        · first | refine x_aload_n d_Runner_judge_33 rfl rfl ?_ | refine x_aloadN_n d_Runner_judge_33 rfl rfl ?_ | refine x_aloadE_n d_Runner_judge_33 rfl rfl ?_ | refine x_aloadO_n d_Runner_judge_33 rfl rfl ?_
          refine x_getI d_Runner_judge_34 f_Runner_27 rfl (by assumption) ?_
          refine x_iload_n d_Runner_judge_37 rfl rfl ?_
          rw [z9]
          refine x_icmp_lt (tgt := 45) d_Runner_judge_38 (by decide) (fun c38 => ?_) (fun c38 => ?_)
          · refine x_iconst (v := 4) d_Runner_judge_45 (by decide) ?_
            exact x_ireturn d_Runner_judge_46 rfl rfl (by rw [jdg, if_neg hlo, hnx] at hQ; simp only [if_neg (show ¬ (ufs cs (rBody T)) (y.take 200) a = false from by rw [Bool.not_eq_false]; exact bI_n0 c28)] at hQ; first | (rw [if_pos ((nI_ltI (by omega) (by omega)).mp c38)] at hQ; exact hQ) | (rw [if_neg (fun z => c38 (nI_lt z (by omega)))] at hQ; exact hQ))
          · refine x_iconst (v := 2) d_Runner_judge_41 (by decide) ?_
            refine x_goto (tgt := 46) d_Runner_judge_42 (by decide) ?_
            exact x_ireturn d_Runner_judge_46 rfl rfl (by rw [jdg, if_neg hlo, hnx] at hQ; simp only [if_neg (show ¬ (ufs cs (rBody T)) (y.take 200) a = false from by rw [Bool.not_eq_false]; exact bI_n0 c28)] at hQ; first | (rw [if_pos ((nI_ltI (by omega) (by omega)).mp c38)] at hQ; exact hQ) | (rw [if_neg (fun z => c38 (nI_lt z (by omega)))] at hQ; exact hQ))
        · refine x_iconst (v := 1) d_Runner_judge_31 (by decide) ?_
          exact x_ireturn d_Runner_judge_32 rfl rfl (by rw [jdg, if_neg hlo, hnx] at hQ; simp only [if_pos (show (ufs cs (rBody T)) (y.take 200) a = false from bI_0 c28)] at hQ; exact hQ)
      · exact absurd c14 (oI_ne (by omega))
  · refine x_iconst (v := 3) d_Runner_judge_10 (by decide) ?_
    exact x_ireturn d_Runner_judge_11 rfl rfl (by rw [jdg, if_pos (of_decide_eq_true (bI_n0 c7))] at hQ; exact hQ)
set_option maxRecDepth 10000 in
set_option maxHeartbeats 1000000 in
theorem c_go_9 {G : Ctx} {d : Nat} {Γ : List Sh} {σ : Mem} {Q : Option Value → List Sh → Mem → Prop} {ra rb m fuel K : Nat} {y : List Int32} {e : Int32} {pt : Nat → Int32} {cs : Nat → Bool} {T : TS}  (hRs : isRes Γ σ) (hTr : isTree Γ σ T) (hB : BW T) (hR : isRn Γ σ ra rb y e m) (hG : isSg Γ σ 27 pt cs) (hOK : SgOK pt cs) (hS : isSb Γ σ K) (hK : K + 1000 < 1000000000) (hfu : fuel ≤ 500) (hQ : ∀ σ' ra' rb', isRn Γ σ' ra' rb' (gRun cs (ufs cs (rBody T)) (rL pt cs T) fuel fuel 0 y).2.2 (gRun cs (ufs cs (rBody T)) (rL pt cs T) fuel fuel 0 y).1 (gRun cs (ufs cs (rBody T)) (rL pt cs T) fuel fuel 0 y).2.1 → isSb Γ σ' (K + 1000) → FrP (fun a => (22 ≤ a ∧ a ≤ 26) ∨ inR a) σ σ' → Q (some (.int (gRun cs (ufs cs (rBody T)) (rL pt cs T) fuel fuel 0 y).1)) Γ σ') : Ct G M_Runner_go (d + 5) 0 0 [rf G 386, rf G 385, .int (nI fuel)] Γ σ Q := by
  obtain ⟨z0, z1, z2, z3, z4, z5, z6, ⟨y2, z7⟩, z8, z9⟩ := id hR
  have lp : ∀ (k : Nat) (m0 : Nat) (y0 : List Int32) (e0 : Int32) (ra0 rb0 : Nat) (τ : Mem), m0 + k = fuel → (gRun cs (ufs cs (rBody T)) (rL pt cs T) fuel k m0 y0) = (gRun cs (ufs cs (rBody T)) (rL pt cs T) fuel fuel 0 y) → isRn Γ τ ra0 rb0 y0 e0 m0 → isSb Γ τ (K + m0) → FrP (fun a => (22 ≤ a ∧ a ≤ 26) ∨ inR a) σ τ → Wq G M_Runner_go (Em G (d + 5) 0 0 Q) 0 0 5 [some (rf G 386), some (rf G 385), some (.int (nI fuel)), none, none] [] [] Γ τ := by
    intro k
    induction k with
    | zero =>
      intro m0 y0 e0 ra0 rb0 τ h1 h2 R1 S1 f0
      have G1 := hG.P f0 (by unfold inR; omega) (by unfold inR; omega) (by unfold inR; omega)
      have Rs1 := hRs.P f0 (by unfold inR; omega)
      have Tr1 := hTr.P f0 (fun a h1 h2 => by unfold inT at h1; unfold inR at h2; omega)
      obtain ⟨z0, z1, z2, z3, z4, z5, z6, ⟨y2, z7⟩, z8, z9⟩ := id R1
      have hd : (ra0 = 387 ∧ rb0 = 389) ∨ (ra0 = 389 ∧ rb0 = 387) := z3
      first | refine x_aload_n d_Runner_go_5 rfl rfl ?_ | refine x_aloadN_n d_Runner_go_5 rfl rfl ?_ | refine x_aloadE_n d_Runner_go_5 rfl rfl ?_ | refine x_aloadO_n d_Runner_go_5 rfl rfl ?_
      refine x_getI d_Runner_go_6 f_Runner_27 rfl (by assumption) ?_
      refine x_iload_n d_Runner_go_9 rfl rfl ?_
      rw [z9]
      refine x_icmp_gt (tgt := 95) d_Runner_go_10 (by decide) (fun c10 => ?_) (fun c10 => ?_)
      · exact absurd c10 (nI_nlt (by omega) (by omega))
      · first | refine x_aload_n d_Runner_go_13 rfl rfl ?_ | refine x_aloadN_n d_Runner_go_13 rfl rfl ?_ | refine x_aloadE_n d_Runner_go_13 rfl rfl ?_ | refine x_aloadO_n d_Runner_go_13 rfl rfl ?_
        refine x_getR d_Runner_go_14 f_Runner_30 rfl (by exact z0) (z1) ?_
        first | refine x_aload_n d_Runner_go_17 rfl rfl ?_ | refine x_aloadN_n d_Runner_go_17 rfl rfl ?_ | refine x_aloadE_n d_Runner_go_17 rfl rfl ?_ | refine x_aloadO_n d_Runner_go_17 rfl rfl ?_
        refine x_getR d_Runner_go_18 f_Runner_14 rfl (by exact z0) (z4) ?_
        refine x_callV1 d_Runner_go_21 k_Signs_nextCall l_Runner_58 v_Signs_nextCall rfl s_Signs_nextCall (by exact G1.1.1) RoomE.m (Nat.le_of_ble_eq_true rfl) (c_Signs_nextCall G1 z6 ?_)
        refine x_istore_n d_Runner_go_24 rfl rfl ?_
        first | refine x_aload_n d_Runner_go_25 rfl rfl ?_ | refine x_aloadN_n d_Runner_go_25 rfl rfl ?_ | refine x_aloadE_n d_Runner_go_25 rfl rfl ?_ | refine x_aloadO_n d_Runner_go_25 rfl rfl ?_
        first | refine x_aload_n d_Runner_go_26 rfl rfl ?_ | refine x_aloadN_n d_Runner_go_26 rfl rfl ?_ | refine x_aloadE_n d_Runner_go_26 rfl rfl ?_ | refine x_aloadO_n d_Runner_go_26 rfl rfl ?_
        first | refine x_aload_n d_Runner_go_27 rfl rfl ?_ | refine x_aloadN_n d_Runner_go_27 rfl rfl ?_ | refine x_aloadE_n d_Runner_go_27 rfl rfl ?_ | refine x_aloadO_n d_Runner_go_27 rfl rfl ?_
        refine x_iload_n d_Runner_go_28 rfl rfl ?_
        refine x_iload_n d_Runner_go_29 rfl rfl ?_
        refine x_callV3 d_Runner_go_30 k_Runner_judge l_Runner_64 v_Runner_judge rfl s_Runner_judge (by exact z0) RoomE.m (Nat.le_of_ble_eq_true rfl) (c_judge_9 Rs1 Tr1 hB R1 G1 (by omega) (by omega) ?_)
        refine x_putI d_Runner_go_33 (w_Runner_m_23 _) rfl (by first | rfl | decide) (by first | rfl | decide) (by exact z0) ?_
        have ff : Fr [386] τ (wI τ 386 4 (jdg cs (ufs cs (rBody T)) y0 m0 fuel)) := Fr.rf.wI (by simp)
        have R2 : isRn Γ (wI τ 386 4 (jdg cs (ufs cs (rBody T)) y0 m0 fuel)) ra0 rb0 y0 (jdg cs (ufs cs (rBody T)) y0 m0 fuel) m0 := ⟨z0, z1, z2, z3, z4, z5, z6.Fr ff (by simp; omega) (by simp; omega), ⟨y2, z7.Fr ff (by simp; omega) (by simp; omega)⟩, wI_s, by rw [wI_j (by decide)]; exact z9⟩
        first | refine x_aload_n d_Runner_go_36 rfl rfl ?_ | refine x_aloadN_n d_Runner_go_36 rfl rfl ?_ | refine x_aloadE_n d_Runner_go_36 rfl rfl ?_ | refine x_aloadO_n d_Runner_go_36 rfl rfl ?_
        refine x_getI d_Runner_go_37 f_Runner_23 rfl (by assumption) ?_
        refine x_iconst (v := 4) d_Runner_go_40 (by decide) ?_
        rw [show (wI τ 386 4 (jdg cs (ufs cs (rBody T)) y0 m0 fuel)).1 386 4 = (jdg cs (ufs cs (rBody T)) y0 m0 fuel) from wI_s]
        refine x_icmp_eq (tgt := 49) d_Runner_go_41 (by decide) (fun c41 => ?_) (fun c41 => ?_)
        · exact absurd (jdg_4 c41).1 (by omega)
        · first | refine x_aload_n d_Runner_go_44 rfl rfl ?_ | refine x_aloadN_n d_Runner_go_44 rfl rfl ?_ | refine x_aloadE_n d_Runner_go_44 rfl rfl ?_ | refine x_aloadO_n d_Runner_go_44 rfl rfl ?_
          refine x_getI d_Runner_go_45 f_Runner_23 rfl (by assumption) ?_
          exact x_ireturn d_Runner_go_48 rfl rfl (by rw [show (wI τ 386 4 (jdg cs (ufs cs (rBody T)) y0 m0 fuel)).1 386 4 = (jdg cs (ufs cs (rBody T)) y0 m0 fuel) from wI_s]; have e2 : (gRun cs (ufs cs (rBody T)) (rL pt cs T) fuel 0 m0 y0) = ((jdg cs (ufs cs (rBody T)) y0 m0 fuel), m0, y0) := rfl; rw [e2] at h2; have hq := hQ _ ra0 rb0 (by rw [← h2]; exact R2) (S1.P (ff.P (T := fun a => a = 386) (by simp)) (fun a h1 h2 h3 => by omega) |>.mono (by omega)) (f0.tr (ff.P (by simp; unfold inR; omega))); rw [← h2] at hq; exact hq)
    | succ k ih =>
      intro m0 y0 e0 ra0 rb0 τ h1 h2 R1 S1 f0
      have G1 := hG.P f0 (by unfold inR; omega) (by unfold inR; omega) (by unfold inR; omega)
      have Rs1 := hRs.P f0 (by unfold inR; omega)
      have Tr1 := hTr.P f0 (fun a h1 h2 => by unfold inT at h1; unfold inR at h2; omega)
      obtain ⟨z0, z1, z2, z3, z4, z5, z6, ⟨y2, z7⟩, z8, z9⟩ := id R1
      have hd : (ra0 = 387 ∧ rb0 = 389) ∨ (ra0 = 389 ∧ rb0 = 387) := z3
      first | refine x_aload_n d_Runner_go_5 rfl rfl ?_ | refine x_aloadN_n d_Runner_go_5 rfl rfl ?_ | refine x_aloadE_n d_Runner_go_5 rfl rfl ?_ | refine x_aloadO_n d_Runner_go_5 rfl rfl ?_
      refine x_getI d_Runner_go_6 f_Runner_27 rfl (by assumption) ?_
      refine x_iload_n d_Runner_go_9 rfl rfl ?_
      rw [z9]
      refine x_icmp_gt (tgt := 95) d_Runner_go_10 (by decide) (fun c10 => ?_) (fun c10 => ?_)
      · exact absurd c10 (nI_nlt (by omega) (by omega))
      · first | refine x_aload_n d_Runner_go_13 rfl rfl ?_ | refine x_aloadN_n d_Runner_go_13 rfl rfl ?_ | refine x_aloadE_n d_Runner_go_13 rfl rfl ?_ | refine x_aloadO_n d_Runner_go_13 rfl rfl ?_
        refine x_getR d_Runner_go_14 f_Runner_30 rfl (by exact z0) (z1) ?_
        first | refine x_aload_n d_Runner_go_17 rfl rfl ?_ | refine x_aloadN_n d_Runner_go_17 rfl rfl ?_ | refine x_aloadE_n d_Runner_go_17 rfl rfl ?_ | refine x_aloadO_n d_Runner_go_17 rfl rfl ?_
        refine x_getR d_Runner_go_18 f_Runner_14 rfl (by exact z0) (z4) ?_
        refine x_callV1 d_Runner_go_21 k_Signs_nextCall l_Runner_58 v_Signs_nextCall rfl s_Signs_nextCall (by exact G1.1.1) RoomE.m (Nat.le_of_ble_eq_true rfl) (c_Signs_nextCall G1 z6 ?_)
        refine x_istore_n d_Runner_go_24 rfl rfl ?_
        first | refine x_aload_n d_Runner_go_25 rfl rfl ?_ | refine x_aloadN_n d_Runner_go_25 rfl rfl ?_ | refine x_aloadE_n d_Runner_go_25 rfl rfl ?_ | refine x_aloadO_n d_Runner_go_25 rfl rfl ?_
        first | refine x_aload_n d_Runner_go_26 rfl rfl ?_ | refine x_aloadN_n d_Runner_go_26 rfl rfl ?_ | refine x_aloadE_n d_Runner_go_26 rfl rfl ?_ | refine x_aloadO_n d_Runner_go_26 rfl rfl ?_
        first | refine x_aload_n d_Runner_go_27 rfl rfl ?_ | refine x_aloadN_n d_Runner_go_27 rfl rfl ?_ | refine x_aloadE_n d_Runner_go_27 rfl rfl ?_ | refine x_aloadO_n d_Runner_go_27 rfl rfl ?_
        refine x_iload_n d_Runner_go_28 rfl rfl ?_
        refine x_iload_n d_Runner_go_29 rfl rfl ?_
        refine x_callV3 d_Runner_go_30 k_Runner_judge l_Runner_64 v_Runner_judge rfl s_Runner_judge (by exact z0) RoomE.m (Nat.le_of_ble_eq_true rfl) (c_judge_9 Rs1 Tr1 hB R1 G1 (by omega) (by omega) ?_)
        refine x_putI d_Runner_go_33 (w_Runner_m_23 _) rfl (by first | rfl | decide) (by first | rfl | decide) (by exact z0) ?_
        have ff : Fr [386] τ (wI τ 386 4 (jdg cs (ufs cs (rBody T)) y0 m0 fuel)) := Fr.rf.wI (by simp)
        have R2 : isRn Γ (wI τ 386 4 (jdg cs (ufs cs (rBody T)) y0 m0 fuel)) ra0 rb0 y0 (jdg cs (ufs cs (rBody T)) y0 m0 fuel) m0 := ⟨z0, z1, z2, z3, z4, z5, z6.Fr ff (by simp; omega) (by simp; omega), ⟨y2, z7.Fr ff (by simp; omega) (by simp; omega)⟩, wI_s, by rw [wI_j (by decide)]; exact z9⟩
        first | refine x_aload_n d_Runner_go_36 rfl rfl ?_ | refine x_aloadN_n d_Runner_go_36 rfl rfl ?_ | refine x_aloadE_n d_Runner_go_36 rfl rfl ?_ | refine x_aloadO_n d_Runner_go_36 rfl rfl ?_
        refine x_getI d_Runner_go_37 f_Runner_23 rfl (by assumption) ?_
        refine x_iconst (v := 4) d_Runner_go_40 (by decide) ?_
        rw [show (wI τ 386 4 (jdg cs (ufs cs (rBody T)) y0 m0 fuel)).1 386 4 = (jdg cs (ufs cs (rBody T)) y0 m0 fuel) from wI_s]
        refine x_icmp_eq (tgt := 49) d_Runner_go_41 (by decide) (fun c41 => ?_) (fun c41 => ?_)
        · obtain ⟨hmf, a, hnx⟩ := jdg_4 c41
          have hax := nxc_lt hnx
          have hal := z6.tl
          first | refine x_aload_n d_Runner_go_49 rfl rfl ?_ | refine x_aloadN_n d_Runner_go_49 rfl rfl ?_ | refine x_aloadE_n d_Runner_go_49 rfl rfl ?_ | refine x_aloadO_n d_Runner_go_49 rfl rfl ?_
          first | refine x_aload_n d_Runner_go_50 rfl rfl ?_ | refine x_aloadN_n d_Runner_go_50 rfl rfl ?_ | refine x_aloadE_n d_Runner_go_50 rfl rfl ?_ | refine x_aloadO_n d_Runner_go_50 rfl rfl ?_
          refine x_getR d_Runner_go_51 f_Runner_14 rfl (by exact z0) (z4) ?_
          rw [hnx]
          refine x_iload_n d_Runner_go_54 rfl rfl ?_
          first | refine x_aload_n d_Runner_go_55 rfl rfl ?_ | refine x_aloadN_n d_Runner_go_55 rfl rfl ?_ | refine x_aloadE_n d_Runner_go_55 rfl rfl ?_ | refine x_aloadO_n d_Runner_go_55 rfl rfl ?_
          refine x_getR d_Runner_go_56 f_Runner_20 rfl (by exact z0) (z5) ?_
          refine x_callU3 d_Runner_go_59 k_Program_unfold l_Runner_68 sm_Program_unfold ⟨by decide, by decide⟩ (by decide +kernel) (Or.inr ⟨_, _, _, v_Program_unfold, (k_Program_unfold).1⟩) v_Program_unfold rfl s9_Program_unfold (by exact hRs.1) RoomE.m (Nat.le_of_ble_eq_true rfl) (c_resUnfold (Rs1.P (ff.P (T := fun a => a = 386) (by simp)) (by omega)) (Tr1.P (ff.P (T := fun a => a = 386) (by simp)) (fun a h1 h2 => by unfold inT at h1; omega)) hB (G1.Fr ff (by simp) (by simp) (by simp)) hOK (S1.P (ff.P (T := fun a => a = 386) (by simp)) (fun a h1 h2 h3 => by omega)) (by omega) R2.2.2.2.2.2.2.1 (z7.Fr ff (by simp; omega) (by simp; omega)) (by omega) (by omega) (by omega) hax.1 (fun τ2 S2 r2 f2 => ?_))
          first | refine x_aload_n d_Runner_go_62 rfl rfl ?_ | refine x_aloadN_n d_Runner_go_62 rfl rfl ?_ | refine x_aloadE_n d_Runner_go_62 rfl rfl ?_ | refine x_aloadO_n d_Runner_go_62 rfl rfl ?_
          refine x_getR d_Runner_go_63 f_Runner_14 rfl (by exact z0) (by rw [(f2 386 (by simp; omega)).2.1]; exact z4) ?_
          first | refine x_astore d_Runner_go_66 rfl ?_ | refine x_astoreN d_Runner_go_66 rfl ?_ | refine x_astoreE d_Runner_go_66 rfl ?_ | refine x_astoreO d_Runner_go_66 rfl ?_
          first | refine x_aload_n d_Runner_go_68 rfl rfl ?_ | refine x_aloadN_n d_Runner_go_68 rfl rfl ?_ | refine x_aloadE_n d_Runner_go_68 rfl rfl ?_ | refine x_aloadO_n d_Runner_go_68 rfl rfl ?_
          first | refine x_aload_n d_Runner_go_69 rfl rfl ?_ | refine x_aloadN_n d_Runner_go_69 rfl rfl ?_ | refine x_aloadE_n d_Runner_go_69 rfl rfl ?_ | refine x_aloadO_n d_Runner_go_69 rfl rfl ?_
          refine x_getR d_Runner_go_70 f_Runner_20 rfl (by exact z0) (by rw [(f2 386 (by simp; omega)).2.1]; exact z5) ?_
          first | refine x_putR d_Runner_go_73 (w_Runner_m_14 _) rfl (by exact z0) ?_ | refine x_putN d_Runner_go_73 (w_Runner_m_14 _) rfl (by exact z0) ?_ | refine x_putQ d_Runner_go_73 (w_Runner_m_14 _) rfl (by exact z0) ?_
          first | refine x_aload_n d_Runner_go_76 rfl rfl ?_ | refine x_aloadN_n d_Runner_go_76 rfl rfl ?_ | refine x_aloadE_n d_Runner_go_76 rfl rfl ?_ | refine x_aloadO_n d_Runner_go_76 rfl rfl ?_
          first | refine x_aload d_Runner_go_77 rfl ?_ | refine x_aloadN d_Runner_go_77 rfl ?_ | refine x_aloadE d_Runner_go_77 rfl ?_ | refine x_aloadO d_Runner_go_77 rfl ?_
          first | refine x_putR d_Runner_go_79 (w_Runner_m_20 _) rfl (by exact z0) ?_ | refine x_putN d_Runner_go_79 (w_Runner_m_20 _) rfl (by exact z0) ?_ | refine x_putQ d_Runner_go_79 (w_Runner_m_20 _) rfl (by exact z0) ?_
          first | refine x_aload_n d_Runner_go_82 rfl rfl ?_ | refine x_aloadN_n d_Runner_go_82 rfl rfl ?_ | refine x_aloadE_n d_Runner_go_82 rfl rfl ?_ | refine x_aloadO_n d_Runner_go_82 rfl rfl ?_
          refine x_dup d_Runner_go_83 rfl ?_
          refine x_getI d_Runner_go_84 f_Runner_27 rfl (by exact z0) ?_
          refine x_iconst (v := 1) d_Runner_go_87 (by decide) ?_
          refine x_iadd d_Runner_go_88 ?_
          refine x_putI d_Runner_go_89 (w_Runner_m_27 _) rfl (by first | rfl | decide) (by first | rfl | decide) (by exact z0) ?_
          refine x_goto (tgt := 5) d_Runner_go_92 (by decide) ?_
          have e84 : (wR (wR τ2 386 2 (some rb0)) 386 3 (some ra0)).1 386 5 = nI m0 := by
            show τ2.1 386 5 = nI m0
            rw [(f2 386 (by simp; omega)).1]
            exact R2.2.2.2.2.2.2.2.2.2
          rw [e84, nI_1]
          have ff3 : Fr [386] τ2 (wI (wR (wR τ2 386 2 (some rb0)) 386 3 (some ra0)) 386 5 (nI (m0 + 1))) := ((Fr.rf.wR (by simp)).wR (by simp)).wI (by simp)
          have R3 : isRn Γ (wI (wR (wR τ2 386 2 (some rb0)) 386 3 (some ra0)) 386 5 (nI (m0 + 1))) rb0 ra0 ((rL pt cs T) (y0.take 200) a) (jdg cs (ufs cs (rBody T)) y0 m0 fuel) (m0 + 1) := by
            refine ⟨z0, ?_, ?_, ?_, ?_, ?_, r2.Fr ff3 (by simp; omega) (by simp; omega), ⟨y0, (R2.2.2.2.2.2.2.1.Fr f2 (by simp; omega) (by simp; omega)).Fr ff3 (by simp; omega) (by simp; omega)⟩, ?_, wI_s⟩
            · show (wR (wR τ2 386 2 (some rb0)) 386 3 (some ra0)).2.1 386 0 = _
              rw [wR_j (by decide), wR_j (by decide), (f2 386 (by simp; omega)).2.1]; exact z1
            · show (wR (wR τ2 386 2 (some rb0)) 386 3 (some ra0)).2.1 386 1 = _
              rw [wR_j (by decide), wR_j (by decide), (f2 386 (by simp; omega)).2.1]; exact z2
            · unfold swp; omega
            · show (wR (wR τ2 386 2 (some rb0)) 386 3 (some ra0)).2.1 386 2 = _
              rw [wR_j (by decide), wR_s]
            · show (wR (wR τ2 386 2 (some rb0)) 386 3 (some ra0)).2.1 386 3 = _
              rw [wR_s]
            · rw [wI_j (by decide)]
              show τ2.1 386 4 = _
              rw [(f2 386 (by simp; omega)).1]
              exact wI_s
          exact Wq.fg (ih (m0 + 1) _ _ rb0 ra0 _ (by omega) (by rw [gRun, if_pos c41, hnx] at h2; exact h2) R3 ((S2.P (ff3.P (T := fun a => a = 386) (by simp)) (fun a h1 h2 h3 => by omega)).mono (by omega)) (((f0.tr (ff.P (by simp; unfold inR; omega))).tr (f2.P (by simp; unfold inR; omega))).tr (ff3.P (by simp; unfold inR; omega)))) ⟨rfl, rfl, rfl, trivial⟩
        · first | refine x_aload_n d_Runner_go_44 rfl rfl ?_ | refine x_aloadN_n d_Runner_go_44 rfl rfl ?_ | refine x_aloadE_n d_Runner_go_44 rfl rfl ?_ | refine x_aloadO_n d_Runner_go_44 rfl rfl ?_
          refine x_getI d_Runner_go_45 f_Runner_23 rfl (by assumption) ?_
          exact x_ireturn d_Runner_go_48 rfl rfl (by rw [show (wI τ 386 4 (jdg cs (ufs cs (rBody T)) y0 m0 fuel)).1 386 4 = (jdg cs (ufs cs (rBody T)) y0 m0 fuel) from wI_s]; have e2 : (gRun cs (ufs cs (rBody T)) (rL pt cs T) fuel (k + 1) m0 y0) = ((jdg cs (ufs cs (rBody T)) y0 m0 fuel), m0, y0) := (by rw [gRun, if_neg c41]); rw [e2] at h2; have hq := hQ _ ra0 rb0 (by rw [← h2]; exact R2) (S1.P (ff.P (T := fun a => a = 386) (by simp)) (fun a h1 h2 h3 => by omega) |>.mono (by omega)) (f0.tr (ff.P (by simp; unfold inR; omega))); rw [← h2] at hq; exact hq)
  refine Ct.of (lv := [some (rf G 386), some (rf G 385), some (.int (nI fuel)), none, none]) (ll := []) rfl rfl (EN.cat (n := 2) ⟨rfl, rfl, rfl, trivial⟩ (Nat.le_of_ble_eq_true rfl)) ?_
  first | refine x_aload_n d_Runner_go_0 rfl rfl ?_ | refine x_aloadN_n d_Runner_go_0 rfl rfl ?_ | refine x_aloadE_n d_Runner_go_0 rfl rfl ?_ | refine x_aloadO_n d_Runner_go_0 rfl rfl ?_
  refine x_iconst (v := 0) d_Runner_go_1 (by decide) ?_
  refine x_putI d_Runner_go_2 (w_Runner_m_27 _) rfl (by first | rfl | decide) (by first | rfl | decide) (by exact z0) ?_
  have ff : Fr [386] σ (wI σ 386 5 0) := Fr.rf.wI (by simp)
  have hd : (ra = 387 ∧ rb = 389) ∨ (ra = 389 ∧ rb = 387) := z3
  exact Wq.fg (lp fuel 0 y e ra rb _ (by omega) rfl ⟨z0, z1, z2, z3, z4, z5, z6.Fr ff (by simp; omega) (by simp; omega), ⟨y2, z7.Fr ff (by simp; omega) (by simp; omega)⟩, by rw [wI_j (by decide)]; exact z8, by rw [wI_s, ← nI_0]⟩ (hS.P (ff.P (T := fun a => a = 386) (by simp)) (fun a h1 h2 h3 => by omega)) (ff.P (by simp; unfold inR; omega))) ⟨rfl, rfl, rfl, trivial⟩
