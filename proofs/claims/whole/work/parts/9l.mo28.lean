/-! SuperDriverModel: drive -/
theorem stl_no {pt : Nat → Int32} {cs : Nat → Bool} {bd : Nat → List Int32} {T : TS} {n : Nat} {S : GS} (h : kd T n ≠ 8) : stl pt cs bd T n S = (S, T) := by
  unfold stl
  rw [if_neg (fun z => h z.2.1)]
theorem dL_skip {pt : Nat → Int32} {cs : Nat → Bool} {bd : Nat → List Int32} {S : GS} {T : TS} : ∀ {j f n : Nat}, (∀ k, n ≤ k → k < n + j → kd T k ≠ 8) → n + j ≤ tN T → dL pt cs bd (f + j) n S T = dL pt cs bd f (n + j) S T
  | 0, f, n, _, _ => rfl
  | j + 1, f, n, h, hn => by
    have e : dL pt cs bd (f + (j + 1)) n S T = dL pt cs bd (f + j) (n + 1) (stl pt cs bd T n S).1 (stl pt cs bd T n S).2 := by
      show dL pt cs bd ((f + j) + 1) n S T = _
      rw [dL, if_pos (by omega)]
    rw [e, stl_no (h n (by omega) (by omega))]
    have := dL_skip (pt := pt) (cs := cs) (bd := bd) (S := S) (T := T) (j := j) (f := f) (n := n + 1) (fun k h1 h2 => h k (by omega) (by omega)) (by omega)
    rw [this]
    congr 1
    omega
theorem dL_id {pt : Nat → Int32} {cs : Nat → Bool} {bd : Nat → List Int32} {S : GS} {T : TS} (h : tG T = true ∨ ∀ k, k < tN T → kd T k ≠ 8) : ∀ {f n : Nat}, dL pt cs bd f n S T = (S, T)
  | 0, _ => rfl
  | f + 1, n => by
    rw [dL]
    split
    · next hn =>
      have : stl pt cs bd T n S = (S, T) := by
        rcases h with h | h
        · exact stl_G h
        · exact stl_no (h n hn)
      rw [this]
      exact dL_id h
    · rfl
theorem dL_inv {pt : Nat → Int32} {cs : Nat → Bool} {bd : Nat → List Int32} (hS : SW pt cs) (hB : BdW pt cs bd) : ∀ {f n : Nat} {S : GS} {T : TS}, n + f = 48 → DJ pt n S T → WG T → HD (sgP pt) T → WG (dL pt cs bd f n S T).2 ∧ HD (sgP pt) (dL pt cs bd f n S T).2 ∧ (tG (dL pt cs bd f n S T).2 = false → WF pt (dL pt cs bd f n S T).2 none ∧ ∀ m, m < tN (dL pt cs bd f n S T).2 → kd (dL pt cs bd f n S T).2 m ≠ 8)
  | 0, n, S, T, hn, hJ, hG, hH => ⟨hG, hH, fun hg => ⟨(hJ.2 hg).1, fun m hm => (hJ.2 hg).2 m (by have := hJ.1.1; have : m < tN T := hm; omega) hm⟩⟩
  | f + 1, n, S, T, hn, hJ, hG, hH => by
    rw [dL]
    split
    · next h => exact dL_inv hS hB (by omega) (DJ_step hS hB n S T hJ h) (WG_stl hG) (HD_stl hG.1 hH)
    · next h => exact ⟨hG, hH, fun hg => ⟨(hJ.2 hg).1, fun m hm => (hJ.2 hg).2 m (by have : m < tN T := hm; omega) hm⟩⟩
theorem dT_ok {X : CS} {S : GS} (hW : csW X) (hne : kG X ≠ []) : WG (dT X S) ∧ HD (sgP (kP X)) (dT X S) ∧ (tG (dT X S) = false → WF (kP X) (dT X S) none ∧ ∀ m, m < tN (dT X S) → kd (dT X S) m ≠ 8) :=
  dL_inv hW.2.1 hW.2.2.1 rfl (DJ_0 hW.2.2.2.1.2 hne) WG_0 HD_0
theorem lowO_s {g : Nat → Int32} : ∀ (k n : Nat), (lowO g k n = -1 ∧ ∀ j, n ≤ j → j < n + k → g j ≠ 8) ∨ ∃ m, n ≤ m ∧ m < n + k ∧ lowO g k n = nI m ∧ g m = 8 ∧ ∀ j, n ≤ j → j < m → g j ≠ 8
  | 0, n => Or.inl ⟨rfl, fun j h1 h2 => by omega⟩
  | k + 1, n => by
    unfold lowO
    by_cases h : g n = 8
    · rw [if_pos h]
      exact Or.inr ⟨n, by omega, by omega, rfl, h, fun j h1 h2 => by omega⟩
    · rw [if_neg h]
      rcases lowO_s (g := g) k (n + 1) with ⟨h1, h2⟩ | ⟨m, h1, h2, h3, h4, h5⟩
      · exact Or.inl ⟨h1, fun j j1 j2 => by
          by_cases e : j = n
          · rw [e]; exact h
          · exact h2 j (by omega) (by omega)⟩
      · exact Or.inr ⟨m, by omega, by omega, h3, h4, fun j j1 j2 => by
          by_cases e : j = n
          · rw [e]; exact h
          · exact h5 j (by omega) j2⟩
theorem dBeg_G {X : CS} (h : (kG X).length ≤ 24) : tG (dBeg X) = false ∧ tN (dBeg X) = 1 ∧ tV (dBeg X) = 8 ∧ tD (dBeg X) 0 = nOpen (tD (tClr (kR X)) 0) none (kG X) := by
  have e : dBeg X = tLnk (tOpen (tClr (kR X)) none (kG X)) none (tN (tClr (kR X))) := by
    unfold dBeg tAdd
    rw [if_neg]
    rintro (z | z | z)
    · have : 48 ≤ 0 := z; omega
    · omega
    · cases z
  rw [e]
  exact ⟨rfl, rfl, rfl, tOpen_eq (T := tClr (kR X))⟩
theorem Rt_beg {X : CS} {σ σ' : Mem} (h : (kG X).length ≤ 24) (hF : addF σ σ' 0 (-1) (kG X)) (h14 : σ.1 391 14 = 8) : Rt σ' (dBeg X) none := by
  obtain ⟨e1, e2, e3, e4⟩ := dBeg_G h
  obtain ⟨a1, a2, a3, a4, a5, a6, a7, a8, a9, a10, a11⟩ := hF
  refine ⟨a3, by rw [e2]; exact a4, by rw [e3, a2 14 (by decide) (by decide)]; exact h14, fun n hn => ?_⟩
  rw [e2] at hn
  obtain rfl : n = 0 := by omega
  have ek : kd (dBeg X) 0 = 8 := by unfold kd; rw [e4]; rfl
  refine ⟨⟨by rw [ek, a5 0, if_pos rfl], by rw [a6 0, if_pos rfl]; unfold lkn; rw [e4]; rfl, ⟨by rw [a7 0, if_pos rfl]; unfold tmn; rw [e4]; rfl, ?_⟩, fun _ _ => by rw [a8 0, if_pos rfl]; unfold dt; rw [e4]; rfl, fun _ => by rw [a9 0, if_pos rfl]⟩, fun _ z => ?_⟩
  · have : tmn (dBeg X) 0 = kG X := by unfold tmn; rw [e4]; rfl
    rw [this]
    exact a10
  · rw [ek] at z
    exact absurd z (by decide)
def drS : List Nat := [391, 400, 401, 402, 403, 404, 405, 406, 407, 408, 409, 410, 411, 412, 413, 414, 415, 416, 417, 418, 419, 420, 421, 422, 423, 424]
def drJ (j : Nat) : Prop := j ≠ 0 ∧ j ≠ 11 ∧ j ≠ 12 ∧ j ≠ 13 ∧ j ≠ 14 ∧ j ≠ 30 ∧ j ≠ 38 ∧ j ≠ 40
def dF (σ τ : Mem) : Prop := FrI drS σ τ ∧ ∀ j, drJ j → τ.1 391 j = σ.1 391 j
theorem dF.rf {σ : Mem} : dF σ σ := ⟨FrI.rf, fun _ _ => rfl⟩
theorem dF.tr {σ τ υ : Mem} (h : dF σ τ) (h2 : dF τ υ) : dF σ υ := ⟨h.1.tr h2.1, fun j hj => (h2.2 j hj).trans (h.2 j hj)⟩
theorem dF.w {σ τ : Mem} {j : Nat} {v : Int32} (h : dF σ τ) (hj : ¬ drJ j) : dF σ (wI τ 391 j v) := ⟨h.1.put (by simp [drS]), fun i hi => by rw [wI_j (show i ≠ j from fun z => hj (z ▸ hi))]; exact h.2 i hi⟩
theorem dF.of {S : List Nat} {σ τ : Mem} (h : FrI S σ τ) (hs : ∀ a ∈ S, a ∈ drS) (hj : ∀ j, drJ j → τ.1 391 j = σ.1 391 j) : dF σ τ := ⟨h.mono hs, hj⟩
theorem dF.off {S : List Nat} {σ τ : Mem} (h : FrI S σ τ) (hs : ∀ a ∈ S, a ∈ drS) (h391 : 391 ∉ S) : dF σ τ := ⟨h.mono hs, fun j _ => by rw [h.2 391 h391]⟩
def fnM (σ : Mem) (T : TS) : Prop := ∀ m, m < tN T → σ.1 410 m = bI (fnT T m) ∧ σ.1 412 m = nI (pT T m).length ∧ seg σ 411 (40 * m) (pT T m) ∧ (pT T m).length ≤ 40
def rsM (σ : Mem) (T T' : TS) (m : Nat) : Prop := ∀ k, m ≤ k → k < tN T → kd T k ≠ 0 → σ.1 414 k = nI (nrs (tD T' k)).length ∧ seg σ 413 (100 * k) (nrs (tD T' k))
/-- the tree without the counters that drive needs alone -/
def Rt0 (σ : Mem) (T : TS) : Prop := σ.1 391 13 = nI (tN T) ∧ ∀ n, n < tN T → RN σ T n ∧ RC σ T n
theorem fnM.fr {σ τ : Mem} {T : TS} (h : fnM σ T) (h0 : τ.1 410 = σ.1 410) (h1 : τ.1 411 = σ.1 411) (h2 : τ.1 412 = σ.1 412) : fnM τ T := fun m hm => by
  obtain ⟨a, b, c, d⟩ := h m hm
  exact ⟨by rw [h0]; exact a, by rw [h2]; exact b, fun i hi => by rw [h1]; exact c i hi, d⟩
theorem sub1m (m : Nat) : nI (m + 1) - 1 = nI m := by
  have := nI_subn (f := 1) (t := m + 1) (by omega)
  exact this
def tN1 (τ : Mem) : Nat := (τ.1 391 13).toNatClampNeg
theorem mBd.dr {σ τ : Mem} {X : CS} (h : mBd σ X) (hf : FrI drS σ τ) : mBd τ X := fun f c h1 h2 => by
  obtain ⟨a, b⟩ := h f c h1 h2
  exact ⟨by rw [hf.2 396 (by simp [drS])]; exact a, b.fr hf (by simp [drS])⟩
theorem mFn.dr {σ τ : Mem} {X : CS} (h : mFn σ X) (hf : FrI drS σ τ) : mFn τ X := fun f h1 => by
  rw [hf.2 393 (by simp [drS]), hf.2 394 (by simp [drS])]
  exact h f h1
set_option maxRecDepth 10000 in
set_option maxHeartbeats 1000000 in
theorem c_Mo_drive {G : Ctx} {d : Nat} {Γ : List Sh} {σ : Mem} {Q : Option Value → List Sh → Mem → Prop} {X : CS} {S : GS} (hM : MoS Γ σ) (hX : isMC σ X) (hW : csW X) (hE0 : kG X = [] → Q (some (.int 0)) Γ (wI σ 391 0 1)) (hE1 : kG X ≠ [] → (tG (dT X S) = true ∨ (tG (dT X S) = false ∧ (dW X S).1.2 = false)) → ∀ τ, dF σ τ → τ.1 391 0 = 2 → τ.1 391 11 = 0 → Q (some (.int 0)) Γ τ) (hQ : kG X ≠ [] → tG (dT X S) = false → (dW X S).1.2 = true → ∀ τ, dF σ τ → τ.1 391 0 = 0 → τ.1 391 11 = 1 → Rt0 τ (dT X S) → fnM τ (dT X S) → rsM τ (dT X S) (dW X S).1.1 0 → IS (dW X S).2.1 (dT X S) (dW X S).1.1 0 → Q (some (.int (nI (tN (dT X S))))) Γ τ) : Ct G M_Mo_drive (d + 8) 0 0 [rf G 391] Γ σ Q := by
  have hgl := hW.2.2.2.1.1
  have hPP : kG X ≠ [] → Wq G M_Mo_drive (Em G (d + 8) 0 0 Q) 0 0 12 [some (rf G 391), none] [] [rf G 391] Γ σ := by
    intro hne
    have hdT := (dT_ok (S := S) hW hne).2.2
    have hWG := (dT_ok (S := S) hW hne).1
    have hHD := (dT_ok (S := S) hW hne).2.1
    have j128g : ∀ (τ : Mem) (o1 : Option Value), dF σ τ → τ.1 391 12 = 1 → (tG (dT X S) = true ∨ (tG (dT X S) = false ∧ (dW X S).1.2 = false)) → Wq G M_Mo_drive (Em G (d + 8) 0 0 Q) 0 0 128 [some (rf G 391), o1] [] [] Γ τ := by
      intro τ o1 f0 h12 hgr
      have hM := hM.fr f0.1
      first | refine x_aload_n d_Mo_drive_128 rfl rfl ?_ | refine x_aloadN_n d_Mo_drive_128 rfl rfl ?_ | refine x_aloadE_n d_Mo_drive_128 rfl rfl ?_ | refine x_aloadO_n d_Mo_drive_128 rfl rfl ?_
      first | refine x_aload_n d_Mo_drive_129 rfl rfl ?_ | refine x_aloadN_n d_Mo_drive_129 rfl rfl ?_ | refine x_aloadE_n d_Mo_drive_129 rfl rfl ?_ | refine x_aloadO_n d_Mo_drive_129 rfl rfl ?_
      refine x_getI d_Mo_drive_130 f_Mo_177 rfl (by first | exact hM.1 | exact hM.s rfl | assumption) ?_
      rw [h12]
      refine x_if_eq (tgt := 140) d_Mo_drive_133 (by decide) (fun c133 => ?_) (fun c133 => ?_)
      · exact absurd c133 (by decide)
      · refine x_iconst (v := 2) d_Mo_drive_136 (by decide) ?_
        refine x_goto (tgt := 141) d_Mo_drive_137 (by decide) ?_
        refine x_putI d_Mo_drive_141 (w_Mo_m_117 _) rfl (by first | rfl | decide) (by first | rfl | decide) (by first | exact hM.1 | exact hM.s rfl | assumption) ?_
        first | refine x_aload_n d_Mo_drive_144 rfl rfl ?_ | refine x_aloadN_n d_Mo_drive_144 rfl rfl ?_ | refine x_aloadE_n d_Mo_drive_144 rfl rfl ?_ | refine x_aloadO_n d_Mo_drive_144 rfl rfl ?_
        first | refine x_aload_n d_Mo_drive_145 rfl rfl ?_ | refine x_aloadN_n d_Mo_drive_145 rfl rfl ?_ | refine x_aloadE_n d_Mo_drive_145 rfl rfl ?_ | refine x_aloadO_n d_Mo_drive_145 rfl rfl ?_
        refine x_getI d_Mo_drive_146 f_Mo_177 rfl (by first | exact hM.1 | exact hM.s rfl | assumption) ?_
        rw [wI_j (by decide), h12]
        refine x_if_ne (tgt := 156) d_Mo_drive_149 (by decide) (fun c149 => ?_) (fun c149 => ?_)
        · refine x_iconst (v := 0) d_Mo_drive_156 (by decide) ?_
          refine x_putI d_Mo_drive_157 (w_Mo_m_138 _) rfl (by first | rfl | decide) (by first | rfl | decide) (by first | exact hM.1 | exact hM.s rfl | assumption) ?_
          first | refine x_aload_n d_Mo_drive_160 rfl rfl ?_ | refine x_aloadN_n d_Mo_drive_160 rfl rfl ?_ | refine x_aloadE_n d_Mo_drive_160 rfl rfl ?_ | refine x_aloadO_n d_Mo_drive_160 rfl rfl ?_
          refine x_getI d_Mo_drive_161 f_Mo_177 rfl (by first | exact hM.1 | exact hM.s rfl | assumption) ?_
          rw [wI_j (by decide), wI_j (by decide), h12]
          refine x_if_eq (tgt := 171) d_Mo_drive_164 (by decide) (fun c164 => ?_) (fun c164 => ?_)
          · exact absurd c164 (by decide)
          · refine x_iconst (v := 0) d_Mo_drive_167 (by decide) ?_
            refine x_goto (tgt := 175) d_Mo_drive_168 (by decide) ?_
            exact x_ireturn d_Mo_drive_175 rfl (by first | rfl | decide) (hE1 hne hgr _ ((f0.w (by simp [drJ])).w (by simp [drJ])) (by rw [wI_j (by decide), wI_s]) wI_s)
        · exact absurd c149 (by decide)
    have j128o : ∀ (τ : Mem) (o1 : Option Value), dF σ τ → τ.1 391 12 = 0 → tG (dT X S) = false → (dW X S).1.2 = true → Rt τ (dT X S) none → fnM τ (dT X S) → rsM τ (dT X S) (dW X S).1.1 0 → IS (dW X S).2.1 (dT X S) (dW X S).1.1 0 → Wq G M_Mo_drive (Em G (d + 8) 0 0 Q) 0 0 128 [some (rf G 391), o1] [] [] Γ τ := by
      intro τ o1 f0 h12 hgf hok hRt hfn hrs hI
      have hM := hM.fr f0.1
      first | refine x_aload_n d_Mo_drive_128 rfl rfl ?_ | refine x_aloadN_n d_Mo_drive_128 rfl rfl ?_ | refine x_aloadE_n d_Mo_drive_128 rfl rfl ?_ | refine x_aloadO_n d_Mo_drive_128 rfl rfl ?_
      first | refine x_aload_n d_Mo_drive_129 rfl rfl ?_ | refine x_aloadN_n d_Mo_drive_129 rfl rfl ?_ | refine x_aloadE_n d_Mo_drive_129 rfl rfl ?_ | refine x_aloadO_n d_Mo_drive_129 rfl rfl ?_
      refine x_getI d_Mo_drive_130 f_Mo_177 rfl (by first | exact hM.1 | exact hM.s rfl | assumption) ?_
      rw [h12]
      refine x_if_eq (tgt := 140) d_Mo_drive_133 (by decide) (fun c133 => ?_) (fun c133 => ?_)
      · refine x_iconst (v := 0) d_Mo_drive_140 (by decide) ?_
        refine x_putI d_Mo_drive_141 (w_Mo_m_117 _) rfl (by first | rfl | decide) (by first | rfl | decide) (by first | exact hM.1 | exact hM.s rfl | assumption) ?_
        first | refine x_aload_n d_Mo_drive_144 rfl rfl ?_ | refine x_aloadN_n d_Mo_drive_144 rfl rfl ?_ | refine x_aloadE_n d_Mo_drive_144 rfl rfl ?_ | refine x_aloadO_n d_Mo_drive_144 rfl rfl ?_
        first | refine x_aload_n d_Mo_drive_145 rfl rfl ?_ | refine x_aloadN_n d_Mo_drive_145 rfl rfl ?_ | refine x_aloadE_n d_Mo_drive_145 rfl rfl ?_ | refine x_aloadO_n d_Mo_drive_145 rfl rfl ?_
        refine x_getI d_Mo_drive_146 f_Mo_177 rfl (by first | exact hM.1 | exact hM.s rfl | assumption) ?_
        rw [wI_j (by decide), h12]
        refine x_if_ne (tgt := 156) d_Mo_drive_149 (by decide) (fun c149 => ?_) (fun c149 => ?_)
        · exact absurd rfl c149
        · refine x_iconst (v := 1) d_Mo_drive_152 (by decide) ?_
          refine x_goto (tgt := 157) d_Mo_drive_153 (by decide) ?_
          refine x_putI d_Mo_drive_157 (w_Mo_m_138 _) rfl (by first | rfl | decide) (by first | rfl | decide) (by first | exact hM.1 | exact hM.s rfl | assumption) ?_
          first | refine x_aload_n d_Mo_drive_160 rfl rfl ?_ | refine x_aloadN_n d_Mo_drive_160 rfl rfl ?_ | refine x_aloadE_n d_Mo_drive_160 rfl rfl ?_ | refine x_aloadO_n d_Mo_drive_160 rfl rfl ?_
          refine x_getI d_Mo_drive_161 f_Mo_177 rfl (by first | exact hM.1 | exact hM.s rfl | assumption) ?_
          rw [wI_j (by decide), wI_j (by decide), h12]
          refine x_if_eq (tgt := 171) d_Mo_drive_164 (by decide) (fun c164 => ?_) (fun c164 => ?_)
          · first | refine x_aload_n d_Mo_drive_171 rfl rfl ?_ | refine x_aloadN_n d_Mo_drive_171 rfl rfl ?_ | refine x_aloadE_n d_Mo_drive_171 rfl rfl ?_ | refine x_aloadO_n d_Mo_drive_171 rfl rfl ?_
            refine x_getI d_Mo_drive_172 f_Mo_180 rfl (by first | exact hM.1 | exact hM.s rfl | assumption) ?_
            rw [wI_j (by decide), wI_j (by decide), hRt.2.1]
            refine x_ireturn d_Mo_drive_175 rfl (by first | rfl | decide) (hQ hne hgf hok _ ((f0.w (by simp [drJ])).w (by simp [drJ])) (by rw [wI_j (by decide), wI_s]) wI_s ⟨by rw [wI_j (by decide), wI_j (by decide)]; exact hRt.2.1, fun n hn => ?_⟩ (hfn.fr (by rw [wI_o (by decide), wI_o (by decide)]) (by rw [wI_o (by decide), wI_o (by decide)]) (by rw [wI_o (by decide), wI_o (by decide)])) (fun k h1 h2 h3 => ?_) hI)
            · have := (hRt.cg (τ := wI (wI τ 391 0 0) 391 11 1) (fun a h1 h2 => by rw [wI_o (by omega), wI_o (by omega)]) (by rw [wI_j (by decide), wI_j (by decide)]) (by rw [wI_j (by decide), wI_j (by decide)]) (by rw [wI_j (by decide), wI_j (by decide)])).2.2.2 n hn
              exact ⟨this.1, this.2 (fun z => by cases z)⟩
            · have := hrs k h1 h2 h3
              exact ⟨by rw [wI_o (by decide), wI_o (by decide)]; exact this.1, fun i hi => by rw [wI_o (by decide), wI_o (by decide)]; exact this.2 i hi⟩
          · exact absurd rfl c164
      · exact absurd rfl c133
    have l97g : ∀ (τ : Mem) (x : Int32), dF σ τ → τ.1 391 12 = 1 → (tG (dT X S) = true ∨ (tG (dT X S) = false ∧ (dW X S).1.2 = false)) → Wq G M_Mo_drive (Em G (d + 8) 0 0 Q) 0 0 97 [some (rf G 391), some (.int x)] [] [] Γ τ := by
      intro τ x f0 h12 hgr
      have hM := hM.fr f0.1
      refine x_iload_n d_Mo_drive_97 rfl rfl ?_
      refine x_if_lt (tgt := 128) d_Mo_drive_98 (by decide) (fun c98 => ?_) (fun c98 => ?_)
      · exact Wq.fg (j128g τ _ f0 h12 hgr) lsub_rf
      · first | refine x_aload_n d_Mo_drive_101 rfl rfl ?_ | refine x_aloadN_n d_Mo_drive_101 rfl rfl ?_ | refine x_aloadE_n d_Mo_drive_101 rfl rfl ?_ | refine x_aloadO_n d_Mo_drive_101 rfl rfl ?_
        refine x_getI d_Mo_drive_102 f_Mo_177 rfl (by first | exact hM.1 | exact hM.s rfl | assumption) ?_
        rw [h12]
        refine x_if_ne (tgt := 128) d_Mo_drive_105 (by decide) (fun c105 => ?_) (fun c105 => ?_)
        · exact Wq.fg (j128g τ _ f0 h12 hgr) lsub_rf
        · exact absurd c105 (by decide)
    have l97 : tG (dT X S) = false → WF (kP X) (dT X S) none → (∀ m, m < tN (dT X S) → kd (dT X S) m ≠ 8) → ∀ (m : Nat) (T0 : TS) (τ : Mem), m ≤ tN (dT X S) → dF σ τ → τ.1 391 12 = 0 → Rt τ (dT X S) none → fnM τ (dT X S) → rsM τ (dT X S) T0 m → IS (dW X S).2.1 (dT X S) T0 m → inlL m T0 = (dW X S).1 → Wq G M_Mo_drive (Em G (d + 8) 0 0 Q) 0 0 97 [some (rf G 391), some (.int (nI m - 1))] [] [] Γ τ := by
      intro hgf hWF h8
      have hptR : ptR (kP X) (dW X S).2.1 (dT X S) := (IS_0 (cs := kC X) hWF).2
      have h48 := hWF.1.1
      intro m
      induction m with
      | zero =>
        intro T0 τ hm f0 h12 hRt hfn hrs hI he
        have hM := hM.fr f0.1
        refine x_iload_n d_Mo_drive_97 rfl rfl ?_
        refine x_if_lt (tgt := 128) d_Mo_drive_98 (by decide) (fun c98 => ?_) (fun c98 => ?_)
        · have hz : inlL 0 T0 = (T0, true) := rfl
          rw [hz] at he
          have e1 : (dW X S).1.1 = T0 := by rw [← he]
          have e2 : (dW X S).1.2 = true := by rw [← he]
          exact Wq.fg (j128o τ _ f0 h12 hgf e2 hRt hfn (by rw [e1]; exact hrs) (by rw [e1]; exact hI)) lsub_rf
        · exact absurd (by decide) c98
      | succ m ihm =>
        intro T0 τ hm f0 h12 hRt hfn hrs hI he
        have hM := hM.fr f0.1
        have hm : m < tN (dT X S) := by omega
        rw [sub1m m]
        refine x_iload_n d_Mo_drive_97 rfl rfl ?_
        refine x_if_lt (tgt := 128) d_Mo_drive_98 (by decide) (fun c98 => ?_) (fun c98 => ?_)
        · exact absurd c98 (nI_pos (by omega))
        · first | refine x_aload_n d_Mo_drive_101 rfl rfl ?_ | refine x_aloadN_n d_Mo_drive_101 rfl rfl ?_ | refine x_aloadE_n d_Mo_drive_101 rfl rfl ?_ | refine x_aloadO_n d_Mo_drive_101 rfl rfl ?_
          refine x_getI d_Mo_drive_102 f_Mo_177 rfl (by first | exact hM.1 | exact hM.s rfl | assumption) ?_
          rw [h12]
          refine x_if_ne (tgt := 128) d_Mo_drive_105 (by decide) (fun c105 => ?_) (fun c105 => ?_)
          · exact absurd rfl c105
          · first | refine x_aload_n d_Mo_drive_108 rfl rfl ?_ | refine x_aloadN_n d_Mo_drive_108 rfl rfl ?_ | refine x_aloadE_n d_Mo_drive_108 rfl rfl ?_ | refine x_aloadO_n d_Mo_drive_108 rfl rfl ?_
            refine x_getR d_Mo_drive_109 f_Mo_35 rfl (by first | exact hM.1 | exact hM.s rfl | assumption) (hM.r rfl) ?_
            refine x_iload_n d_Mo_drive_112 rfl rfl ?_
            refine x_iald d_Mo_drive_113 (by first | exact hM.1 | exact hM.s rfl | assumption) (vp_in_nI (show m < 48 by omega) (by decide)) ?_
            rw [nI_clamp (by omega), (hRt.2.2.2 m hm).1.1]
            refine x_if_eq (tgt := 122) d_Mo_drive_114 (by decide) (fun c114 => ?_) (fun c114 => ?_)
            · have hl0 : (nrs (tD (inl1 T0 m) m)).length = 0 := by
                have hf : fnT (dT X S) m = false := by
                  refine Bool.eq_false_iff.mpr fun z => ?_
                  rcases fnT_34 hWF hm z with y | y <;> (rw [c114] at y; exact absurd y (by decide))
                unfold inl1
                rw [if_pos (by rw [hI.2.1 m hm, hf]; rfl), tRs_at]
                show (wInl T0 m).length = 0
                rw [(wInl_k (T := T0) (n := m)).2.2.2.2.2.2 (Or.inl ((hI.1.kd m).trans c114)), hI.2.2.1 m (Or.inl (by omega)) hm, if_neg (by rw [hf]; decide)]
                rfl
              have hI2 := IS_step hW.2.1 hptR hWF hWG hHD h8 hI hm (by omega)
              have hinl : inlL m (inl1 T0 m) = (dW X S).1 := by rw [← he]; show _ = if 100 < _ then _ else _; rw [if_neg (by omega)]
              refine x_iinc (v := nI m - 1) d_Mo_drive_122 rfl (by rw [Int32.sub_eq_add_neg]; rfl) rfl ?_
              refine x_goto (tgt := 97) d_Mo_drive_125 (by decide) ?_
              refine Wq.fg (ihm (inl1 T0 m) τ (by omega) f0 h12 hRt hfn (fun k h1 h2 h3 => ?_) hI2 hinl) ⟨rfl, rfl, trivial⟩
              have : k ≠ m := fun z => h3 (z ▸ c114)
              rw [show tD (inl1 T0 m) k = tD T0 k by unfold inl1; split; exact tRs_ne this; rfl]
              exact hrs k (by omega) h2 h3
            · refine x_aload_n d_Mo_drive_117 rfl rfl ?_
              refine x_iload_n d_Mo_drive_118 rfl rfl ?_
              have hnum : ∃ b c u, (kd (dT X S) m = 2 ∨ kd (dT X S) m = 3 ∨ kd (dT X S) m = 4 ∨ kd (dT X S) m = 7 → Ch (dT X S) m b c ∧ EV (sgP (kP X)) (dT X S) m b c) ∧ (kd (dT X S) m = 6 → lkn (dT X S) m 9 = some u) := by
                by_cases hc : kd (dT X S) m = 2 ∨ kd (dT X S) m = 3 ∨ kd (dT X S) m = 4 ∨ kd (dT X S) m = 7
                · obtain ⟨b, c, h1, h2⟩ := (hWF.2.2 m hm).2.2 (fun z => by cases z) hc
                  exact ⟨b, c, 0, fun _ => ⟨h1, h2⟩, fun z => by rcases hc with y | y | y | y <;> (rw [y] at z; exact absurd z (by decide))⟩
                · by_cases h6 : kd (dT X S) m = 6
                  · obtain ⟨u, q1, _⟩ := (hWF.2.2 m hm).2.1 h6
                    exact ⟨0, 0, u, fun z => absurd z hc, fun _ => q1⟩
                  · exact ⟨0, 0, 0, fun z => absurd z hc, fun z => absurd z h6⟩
              obtain ⟨b, c, u, hCE, hu9⟩ := hnum
              have hfv : kd (dT X S) m = 7 → 1 < c → τ.1 407 m = (tD (dT X S) m).1 13 := fun z h1 => ((hRt.2.2.2 m hm).2 (fun y => by cases y) (Or.inr (Or.inr (Or.inr z))) b c (hCE (Or.inr (Or.inr (Or.inr z)))).1).2.2.1 z h1
              have hle := (inl_eq hW.2.1 hptR hWF hWG hHD hI hm c114 (h8 m hm) hCE hu9 hfv).1
              refine x_callV1 d_Mo_drive_119 k_Mo_write l_Mo_266 v_Mo_write rfl s_Mo_write (by exact hM.1) RoomE.m (Nat.le_of_ble_eq_true rfl) (c_Mo_write (b := b) (c := c) (u := u) (fn := fnT (dT X S)) (P := pT (dT X S)) (ρ := fun k => nrs (tD T0 k)) hM hW.2.1 (fun f hf => by rw [f0.1.2 393 (by simp [drS])]; exact (hX.2.1 f hf).1) hRt hWF hWG hm c114 (h8 m hm) (fun k hk => ⟨(hfn k hk).1, (hfn k hk).2.1, (hfn k hk).2.2.1, (hfn k hk).2.2.2, fun s hs => by obtain ⟨j, h1, h2, _⟩ := pT_mem hWF hk hs; exact ⟨j, h1, h2⟩⟩) (fun z => (fnT_iff hWF hm).mpr (Or.inl z)) (fun k h1 h2 h3 => ⟨(hrs k (by omega) h2 h3).1, (hrs k (by omega) h2 h3).2, (hI.2.2.2 k (by omega) h2).1⟩) hCE hu9 (fun hbig τ1 f1 g1 g2 => ?_) (fun hsm τ1 f1 g1 g2 g3 g4 g5 g6 => ?_))
              · rw [← hle] at hbig
                refine x_iinc (v := nI m - 1) d_Mo_drive_122 rfl (by rw [Int32.sub_eq_add_neg]; rfl) rfl ?_
                refine x_goto (tgt := 97) d_Mo_drive_125 (by decide) ?_
                have f2 : dF σ τ1 := f0.tr (dF.of f1 (by simp [drS]) (fun j hj => g2 j hj.2.2.1 hj.2.2.2.2.2.1))
                have hbad : tG (dT X S) = true ∨ (tG (dT X S) = false ∧ (dW X S).1.2 = false) := Or.inr ⟨hgf, by rw [← he]; show (if 100 < _ then _ else _ : TS × Bool).2 = _; rw [if_pos hbig]⟩
                exact Wq.fg (l97g τ1 (nI m - 1) f2 g1 hbad) ⟨rfl, rfl, trivial⟩
              · rw [← hle] at hsm g3 g5
                have hI2 := IS_step hW.2.1 hptR hWF hWG hHD h8 hI hm hsm
                have hinl : inlL m (inl1 T0 m) = (dW X S).1 := by rw [← he]; show _ = if 100 < _ then _ else _; rw [if_neg hsm]
                refine x_iinc (v := nI m - 1) d_Mo_drive_122 rfl (by rw [Int32.sub_eq_add_neg]; rfl) rfl ?_
                refine x_goto (tgt := 97) d_Mo_drive_125 (by decide) ?_
                have f2 : dF σ τ1 := f0.tr (dF.of f1 (by simp [drS]) (fun j hj => g1 j hj.2.2.1 hj.2.2.2.2.2.1))
                refine Wq.fg (ihm (inl1 T0 m) τ1 (by omega) f2 g2 (hRt.cg (fun a h1 h2 => f1.2 a (by simp; omega)) (g2.trans h12.symm) (g1 13 (by decide) (by decide)) (g1 14 (by decide) (by decide))) (hfn.fr (f1.2 410 (by simp)) (f1.2 411 (by simp)) (f1.2 412 (by simp))) (fun k h1 h2 h3 => ?_) hI2 hinl) ⟨rfl, rfl, trivial⟩
                by_cases e : k = m
                · subst e
                  exact ⟨g3, g5⟩
                · rw [show tD (inl1 T0 m) k = tD T0 k by unfold inl1; split; exact tRs_ne e; rfl]
                  have hk := hrs k (by omega) h2 h3
                  have hk100 := (hI.2.2.2 k (by omega) h2).1
                  exact ⟨by rw [g4 k e]; exact hk.1, fun i hi => by rw [g6 _ (by omega)]; exact hk.2 i hi⟩
    have l86g : ∀ (τ : Mem) (o1 : Option Value), dF σ τ → gW τ → tG (dT X S) = true → Wq G M_Mo_drive (Em G (d + 8) 0 0 Q) 0 0 86 [some (rf G 391), o1] [] [] Γ τ := by
      intro τ o1 f0 hgW hgr
      have hM := hM.fr f0.1
      obtain ⟨N, hN48, hN, hz⟩ := hgW.2
      have hch : ∃ zs : Nat → List Int32, ∀ n, n < N → zOK τ n (zs n) := by
        refine ⟨fun n => if h : n < N then Classical.choose (hz n h) else [], fun n hn => ?_⟩
        simp only [hn, dif_pos]
        exact Classical.choose_spec (hz n hn)
      obtain ⟨zs, hzs⟩ := hch
      first | refine x_aload_n d_Mo_drive_86 rfl rfl ?_ | refine x_aloadN_n d_Mo_drive_86 rfl rfl ?_ | refine x_aloadE_n d_Mo_drive_86 rfl rfl ?_ | refine x_aloadO_n d_Mo_drive_86 rfl rfl ?_
      refine x_callV0 d_Mo_drive_87 k_Mo_findFunctions l_Mo_263 v_Mo_findFunctions rfl s_Mo_findFunctions (by first | exact hM.1 | exact hM.s rfl | assumption) RoomE.m (Nat.le_of_ble_eq_true rfl) (c_Mo_findFunctions hM hN hN48 hzs (fun τ1 f1 _ => ?_))
      have f2 : dF σ τ1 := f0.tr (dF.off f1 (by simp [drS]) (by simp))
      have hM := hM.fr f1
      first | refine x_aload_n d_Mo_drive_90 rfl rfl ?_ | refine x_aloadN_n d_Mo_drive_90 rfl rfl ?_ | refine x_aloadE_n d_Mo_drive_90 rfl rfl ?_ | refine x_aloadO_n d_Mo_drive_90 rfl rfl ?_
      refine x_getI d_Mo_drive_91 f_Mo_180 rfl (by exact hM.1) ?_
      refine x_iconst (v := 1) d_Mo_drive_94 (by decide) ?_
      refine x_isub d_Mo_drive_95 ?_
      refine x_istore_n d_Mo_drive_96 rfl rfl ?_
      exact Wq.fg (l97g τ1 _ f2 (by rw [f1.2 391 (by simp)]; exact hgW.1) (Or.inl hgr)) ⟨rfl, rfl, trivial⟩
    have l86o : ∀ (τ : Mem) (o1 : Option Value), dF σ τ → tG (dT X S) = false → Rt τ (dT X S) none → Wq G M_Mo_drive (Em G (d + 8) 0 0 Q) 0 0 86 [some (rf G 391), o1] [] [] Γ τ := by
      intro τ o1 f0 hgf hRt
      have hM := hM.fr f0.1
      obtain ⟨hWF, h8⟩ := hdT hgf
      have hzs : ∀ n, n < tN (dT X S) → zOK τ n (tmn (dT X S) n) := fun n hn => ⟨(hWF.1.2.2 n hn).1, (hRt.2.2.2 n hn).1.2.2.1.1, (hRt.2.2.2 n hn).1.2.2.1.2, fun z => by rw [(hRt.2.2.2 n hn).1.1] at z; exact (hWF.2.2 n hn).1.2.2.2.2.2.2.1 z⟩
      first | refine x_aload_n d_Mo_drive_86 rfl rfl ?_ | refine x_aloadN_n d_Mo_drive_86 rfl rfl ?_ | refine x_aloadE_n d_Mo_drive_86 rfl rfl ?_ | refine x_aloadO_n d_Mo_drive_86 rfl rfl ?_
      refine x_callV0 d_Mo_drive_87 k_Mo_findFunctions l_Mo_263 v_Mo_findFunctions rfl s_Mo_findFunctions (by first | exact hM.1 | exact hM.s rfl | assumption) RoomE.m (Nat.le_of_ble_eq_true rfl) (c_Mo_findFunctions (zs := tmn (dT X S)) hM hRt.2.1 hWF.1.1 hzs (fun τ1 f1 g1 => ?_))
      have f2 : dF σ τ1 := f0.tr (dF.off f1 (by simp [drS]) (by simp))
      have hM := hM.fr f1
      have hfn : fnM τ1 (dT X S) := fun m hm => by
        have := g1 m hm
        unfold fR at this
        rw [fnq_eq hRt hWF hm, pls_eq hRt hWF hm] at this
        exact this
      first | refine x_aload_n d_Mo_drive_90 rfl rfl ?_ | refine x_aloadN_n d_Mo_drive_90 rfl rfl ?_ | refine x_aloadE_n d_Mo_drive_90 rfl rfl ?_ | refine x_aloadO_n d_Mo_drive_90 rfl rfl ?_
      refine x_getI d_Mo_drive_91 f_Mo_180 rfl (by first | exact hM.1 | exact hM.s rfl | assumption) ?_
      rw [f1.2 391 (by simp), hRt.2.1]
      refine x_iconst (v := 1) d_Mo_drive_94 (by decide) ?_
      refine x_isub d_Mo_drive_95 ?_
      refine x_istore_n d_Mo_drive_96 rfl rfl ?_
      exact Wq.fg (l97 hgf hWF h8 (tN (dT X S)) (oT (dT X S) (kP X) (kC X)).1 τ1 (by omega) f2 (by rw [f1.2 391 (by simp)]; exact hRt.1) (hRt.fr f1 (by simp)) hfn (fun k h1 h2 => by omega) (IS_0 hWF).1 rfl) ⟨rfl, rfl, trivial⟩
    have l62 : ∀ (r f : Nat), f ≤ r → ∀ (n : Nat) (S1 : GS) (T1 : TS) (τ : Mem) (x : Int32), n + f = 48 → dF σ τ → DJ (kP X) n S1 T1 → WG T1 → HD (sgP (kP X)) T1 → (tG T1 = true → gW τ) → (tG T1 = false → Rt τ T1 none) → (tG T1 = false → x = lowO (τ.1 400) (tN T1) 0) → dL (kP X) (kC X) (kB X) f n S1 T1 = dL (kP X) (kC X) (kB X) 48 0 S (dBeg X) → Wq G M_Mo_drive (Em G (d + 8) 0 0 Q) 0 0 62 [some (rf G 391), some (.int x)] [] [] Γ τ := by
      intro r
      induction r with
      | zero =>
        intro f hf n S1 T1 τ x hn f0 hJ1 hG1 hH1 h1 h2 h3 hd
        have ef : f = 0 := by omega
        subst ef
        have ed : dT X S = T1 := by unfold dT; rw [← hd]; rfl
        have hM := hM.fr f0.1
        cases hg : tG T1 with
        | true =>
          have hgW := h1 hg
          have hdd : tG (dT X S) = true := by rw [ed]; exact hg
          refine x_iload_n d_Mo_drive_62 rfl rfl ?_
          refine x_if_lt (tgt := 86) d_Mo_drive_63 (by decide) (fun c63 => ?_) (fun c63 => ?_)
          · exact Wq.fg (l86g τ _ f0 hgW hdd) lsub_rf
          · first | refine x_aload_n d_Mo_drive_66 rfl rfl ?_ | refine x_aloadN_n d_Mo_drive_66 rfl rfl ?_ | refine x_aloadE_n d_Mo_drive_66 rfl rfl ?_ | refine x_aloadO_n d_Mo_drive_66 rfl rfl ?_
            refine x_getI d_Mo_drive_67 f_Mo_177 rfl (by first | exact hM.1 | exact hM.s rfl | assumption) ?_
            rw [hgW.1]
            refine x_if_ne (tgt := 86) d_Mo_drive_70 (by decide) (fun c70 => ?_) (fun c70 => ?_)
            · exact Wq.fg (l86g τ _ f0 hgW hdd) lsub_rf
            · exact absurd c70 (by decide)
        | false =>
          have hRt := h2 hg
          have hdd : tG (dT X S) = false ∧ Rt τ (dT X S) none := by rw [ed]; exact ⟨hg, hRt⟩
          have hx : x = -1 := by
            rw [h3 hg]
            rcases lowO_s (g := τ.1 400) (tN T1) 0 with y | ⟨m, y1, y2, y3, y4, y5⟩
            · exact y.1
            · rw [(hRt.2.2.2 m (by omega)).1.1] at y4
              exact absurd y4 ((hJ1.2 hg).2 m (by have := hJ1.1.1; omega) (by omega))
          subst hx
          refine x_iload_n d_Mo_drive_62 rfl rfl ?_
          refine x_if_lt (tgt := 86) d_Mo_drive_63 (by decide) (fun c63 => ?_) (fun c63 => ?_)
          · exact Wq.fg (l86o τ _ f0 hdd.1 hdd.2) lsub_rf
          · exact absurd (by decide) c63
      | succ r ih' =>
        intro f hf n S1 T1 τ x hn f0 hJ1 hG1 hH1 h1 h2 h3 hd
        have hM := hM.fr f0.1
        cases hg : tG T1 with
        | true =>
          have hgW := h1 hg
          have ed : dT X S = T1 := by unfold dT; rw [← hd, dL_id (Or.inl hg)]
          have hdd : tG (dT X S) = true := by rw [ed]; exact hg
          refine x_iload_n d_Mo_drive_62 rfl rfl ?_
          refine x_if_lt (tgt := 86) d_Mo_drive_63 (by decide) (fun c63 => ?_) (fun c63 => ?_)
          · exact Wq.fg (l86g τ _ f0 hgW hdd) lsub_rf
          · first | refine x_aload_n d_Mo_drive_66 rfl rfl ?_ | refine x_aloadN_n d_Mo_drive_66 rfl rfl ?_ | refine x_aloadE_n d_Mo_drive_66 rfl rfl ?_ | refine x_aloadO_n d_Mo_drive_66 rfl rfl ?_
            refine x_getI d_Mo_drive_67 f_Mo_177 rfl (by first | exact hM.1 | exact hM.s rfl | assumption) ?_
            rw [hgW.1]
            refine x_if_ne (tgt := 86) d_Mo_drive_70 (by decide) (fun c70 => ?_) (fun c70 => ?_)
            · exact Wq.fg (l86g τ _ f0 hgW hdd) lsub_rf
            · exact absurd c70 (by decide)
        | false =>
          have hRt := h2 hg
          obtain ⟨hWF, hop⟩ := hJ1.2 hg
          have hx := h3 hg
          have h48 := hJ1.1.1
          rcases lowO_s (g := τ.1 400) (tN T1) 0 with y | ⟨m, y1, y2, y3, y4, y5⟩
          · rw [y.1] at hx
            subst hx
            have ed : dT X S = T1 := by
              unfold dT
              rw [← hd, dL_id (Or.inr fun k hk z => y.2 k (by omega) (by omega) (by rw [(hRt.2.2.2 k hk).1.1]; exact z))]
            have hdd : tG (dT X S) = false ∧ Rt τ (dT X S) none := by rw [ed]; exact ⟨hg, hRt⟩
            refine x_iload_n d_Mo_drive_62 rfl rfl ?_
            refine x_if_lt (tgt := 86) d_Mo_drive_63 (by decide) (fun c63 => ?_) (fun c63 => ?_)
            · exact Wq.fg (l86o τ _ f0 hdd.1 hdd.2) lsub_rf
            · exact absurd (by decide) c63
          · rw [y3] at hx
            subst hx
            have hmT : m < tN T1 := by omega
            have h8m : kd T1 m = 8 := by rw [← (hRt.2.2.2 m hmT).1.1]; exact y4
            have hnm : n ≤ m := Nat.not_lt.mp fun z => hop m z hmT h8m
            have hno : ∀ k, k < m → kd T1 k ≠ 8 := fun k hk z => y5 k (by omega) hk (by rw [(hRt.2.2.2 k (by omega)).1.1]; exact z)
            have hJm : DJ (kP X) m S1 T1 := ⟨hJ1.1, fun _ => ⟨hWF, fun k hk _ => hno k hk⟩⟩
            have hstep : dL (kP X) (kC X) (kB X) f n S1 T1 = dL (kP X) (kC X) (kB X) (48 - (m + 1)) (m + 1) (stl (kP X) (kC X) (kB X) T1 m S1).1 (stl (kP X) (kC X) (kB X) T1 m S1).2 := by
              have e1 : f = (48 - (m + 1) + 1) + (m - n) := by omega
              rw [e1, dL_skip (fun k h1 h2 => hno k (by omega)) (by omega), show n + (m - n) = m by omega, dL, if_pos hmT]
            have hmb : mBd τ X := mBd.dr hX.2.2.1 f0.1
            have hmf : mFn τ X := mFn.dr hX.2.1 f0.1
            have ih := fun (f : Nat) (h : f ≤ r) => ih' f h
            refine x_iload_n d_Mo_drive_62 rfl rfl ?_
            refine x_if_lt (tgt := 86) d_Mo_drive_63 (by decide) (fun c63 => ?_) (fun c63 => ?_)
            · exact absurd c63 (nI_pos (by omega))
            · first | refine x_aload_n d_Mo_drive_66 rfl rfl ?_ | refine x_aloadN_n d_Mo_drive_66 rfl rfl ?_ | refine x_aloadE_n d_Mo_drive_66 rfl rfl ?_ | refine x_aloadO_n d_Mo_drive_66 rfl rfl ?_
              refine x_getI d_Mo_drive_67 f_Mo_177 rfl (by first | exact hM.1 | exact hM.s rfl | assumption) ?_
              rw [hRt.1]
              refine x_if_ne (tgt := 86) d_Mo_drive_70 (by decide) (fun c70 => ?_) (fun c70 => ?_)
              · exact absurd rfl c70
              · first | refine x_aload_n d_Mo_drive_73 rfl rfl ?_ | refine x_aloadN_n d_Mo_drive_73 rfl rfl ?_ | refine x_aloadE_n d_Mo_drive_73 rfl rfl ?_ | refine x_aloadO_n d_Mo_drive_73 rfl rfl ?_
                refine x_iload_n d_Mo_drive_74 rfl rfl ?_
                refine x_callV1 d_Mo_drive_75 k_Mo_turn l_Mo_257 v_Mo_turn rfl s_Mo_turn (by first | exact hM.1 | exact hM.s rfl | assumption) RoomE.m (Nat.le_of_ble_eq_true rfl) (c_Mo_turn (S := S1) hM ⟨hW.2.1, hW.2.2.1, hmb, hmf⟩ hRt hWF hmT h8m (fun τ1 f1 o1 g1 g2 => ?_))
                have hM := hM.fr f1
                have f2 : dF σ τ1 := f0.tr (dF.of f1 (by simp [drS, tuS]) (fun j hj => o1 j ⟨hj.2.2.1, hj.2.2.2.1, hj.2.2.2.2.1, hj.2.2.2.2.2.1, hj.2.2.2.2.2.2.1, hj.2.2.2.2.2.2.2⟩))
                have hJ2 := DJ_step hW.2.1 hW.2.2.1 m S1 T1 hJm hmT
                have hN1 : τ1.1 391 13 = nI (tN1 τ1) ∧ tN1 τ1 ≤ 48 := by
                  have : ∃ N, τ1.1 391 13 = nI N ∧ N ≤ 48 := by
                    cases e : tG (stl (kP X) (kC X) (kB X) T1 m S1).2 with
                    | true => obtain ⟨N, h1, h2, _⟩ := (g1 e).2; exact ⟨N, h2, h1⟩
                    | false => exact ⟨_, (g2 e).2.1, hJ2.1.1⟩
                  obtain ⟨N, h1, h2⟩ := this
                  have e : tN1 τ1 = N := by unfold tN1; rw [h1, nI_clamp (by omega)]
                  rw [e]
                  exact ⟨h1, h2⟩
                first | refine x_aload_n d_Mo_drive_78 rfl rfl ?_ | refine x_aloadN_n d_Mo_drive_78 rfl rfl ?_ | refine x_aloadE_n d_Mo_drive_78 rfl rfl ?_ | refine x_aloadO_n d_Mo_drive_78 rfl rfl ?_
                refine x_callV0 d_Mo_drive_79 k_Mo_lowestOpen l_Mo_260 v_Mo_lowestOpen rfl s_Mo_lowestOpen (by first | exact hM.1 | exact hM.s rfl | assumption) RoomE.m (Nat.le_of_ble_eq_true rfl) (c_Mo_lowestOpen hM hN1.1 hN1.2 ?_)
                refine x_istore_n d_Mo_drive_82 rfl rfl ?_
                refine x_goto (tgt := 62) d_Mo_drive_83 (by decide) ?_
                exact Wq.fg (ih (48 - (m + 1)) (by omega) (m + 1) _ _ τ1 _ (by omega) f2 hJ2 (WG_stl hG1) (HD_stl hG1.1 hH1) g1 g2 (fun z => by
                  have : tN1 τ1 = tN (stl (kP X) (kC X) (kB X) T1 m S1).2 := nI_inj (hN1.1.symm.trans (g2 z).2.1) (by omega) (by have := hJ2.1.1; omega)
                  rw [this]) (hstep.symm.trans hd)) ⟨rfl, rfl, trivial⟩
    refine x_iconst (v := 0) d_Mo_drive_12 (by decide) ?_
    refine x_putI d_Mo_drive_13 (w_Mo_m_117 _) rfl (by first | rfl | decide) (by first | rfl | decide) (by first | exact hM.1 | exact hM.s rfl | assumption) ?_
    first | refine x_aload_n d_Mo_drive_16 rfl rfl ?_ | refine x_aloadN_n d_Mo_drive_16 rfl rfl ?_ | refine x_aloadE_n d_Mo_drive_16 rfl rfl ?_ | refine x_aloadO_n d_Mo_drive_16 rfl rfl ?_
    refine x_getI d_Mo_drive_17 f_Mo_117 rfl (by first | exact hM.1 | exact hM.s rfl | assumption) ?_
    rw [wI_s]
    refine x_if_le (tgt := 25) d_Mo_drive_20 (by decide) (fun c20 => ?_) (fun c20 => ?_)
    · first | refine x_aload_n d_Mo_drive_25 rfl rfl ?_ | refine x_aloadN_n d_Mo_drive_25 rfl rfl ?_ | refine x_aloadE_n d_Mo_drive_25 rfl rfl ?_ | refine x_aloadO_n d_Mo_drive_25 rfl rfl ?_
      refine x_iconst (v := 0) d_Mo_drive_26 (by decide) ?_
      refine x_putI d_Mo_drive_27 (w_Mo_m_138 _) rfl (by first | rfl | decide) (by first | rfl | decide) (by first | exact hM.1 | exact hM.s rfl | assumption) ?_
      first | refine x_aload_n d_Mo_drive_30 rfl rfl ?_ | refine x_aloadN_n d_Mo_drive_30 rfl rfl ?_ | refine x_aloadE_n d_Mo_drive_30 rfl rfl ?_ | refine x_aloadO_n d_Mo_drive_30 rfl rfl ?_
      refine x_iconst (v := 0) d_Mo_drive_31 (by decide) ?_
      refine x_putI d_Mo_drive_32 (w_Mo_m_177 _) rfl (by first | rfl | decide) (by first | rfl | decide) (by first | exact hM.1 | exact hM.s rfl | assumption) ?_
      first | refine x_aload_n d_Mo_drive_35 rfl rfl ?_ | refine x_aloadN_n d_Mo_drive_35 rfl rfl ?_ | refine x_aloadE_n d_Mo_drive_35 rfl rfl ?_ | refine x_aloadO_n d_Mo_drive_35 rfl rfl ?_
      refine x_iconst (v := 0) d_Mo_drive_36 (by decide) ?_
      refine x_putI d_Mo_drive_37 (w_Mo_m_180 _) rfl (by first | rfl | decide) (by first | rfl | decide) (by first | exact hM.1 | exact hM.s rfl | assumption) ?_
      first | refine x_aload_n d_Mo_drive_40 rfl rfl ?_ | refine x_aloadN_n d_Mo_drive_40 rfl rfl ?_ | refine x_aloadE_n d_Mo_drive_40 rfl rfl ?_ | refine x_aloadO_n d_Mo_drive_40 rfl rfl ?_
      refine x_bipush (v := 8) d_Mo_drive_41 (by decide) ?_
      refine x_putI d_Mo_drive_43 (w_Mo_m_183 _) rfl (by first | rfl | decide) (by first | rfl | decide) (by first | exact hM.1 | exact hM.s rfl | assumption) ?_
      first | refine x_aload_n d_Mo_drive_46 rfl rfl ?_ | refine x_aloadN_n d_Mo_drive_46 rfl rfl ?_ | refine x_aloadE_n d_Mo_drive_46 rfl rfl ?_ | refine x_aloadO_n d_Mo_drive_46 rfl rfl ?_
      refine x_iconst (v := -1) d_Mo_drive_47 (by decide) ?_
      first | refine x_aload_n d_Mo_drive_48 rfl rfl ?_ | refine x_aloadN_n d_Mo_drive_48 rfl rfl ?_ | refine x_aloadE_n d_Mo_drive_48 rfl rfl ?_ | refine x_aloadO_n d_Mo_drive_48 rfl rfl ?_
      refine x_getR d_Mo_drive_49 f_Mo_26 rfl (by first | exact hM.1 | exact hM.s rfl | assumption) (hM.r rfl) ?_
      refine x_iconst (v := 0) d_Mo_drive_52 (by decide) ?_
      first | refine x_aload_n d_Mo_drive_53 rfl rfl ?_ | refine x_aloadN_n d_Mo_drive_53 rfl rfl ?_ | refine x_aloadE_n d_Mo_drive_53 rfl rfl ?_ | refine x_aloadO_n d_Mo_drive_53 rfl rfl ?_
      refine x_getI d_Mo_drive_54 f_Mo_135 rfl (by first | exact hM.1 | exact hM.s rfl | assumption) ?_
      refine Wq.top (y := nI (0 + (kG X).length)) (by rw [wI_j (by decide), wI_j (by decide), wI_j (by decide), wI_j (by decide), wI_j (by decide), hX.2.2.2.1.1, Nat.zero_add]) ?_
      refine x_callV4 d_Mo_drive_57 k_Mo_add l_Mo_205 v_Mo_add rfl s_Mo_add (by first | exact hM.1 | exact hM.s rfl | assumption) RoomE.m (Nat.le_of_ble_eq_true rfl) (c_Mo_add (g := false) (N := 0) hM.w.w.w.w.w (hM.s rfl) (by omega) (show 0 + (kG X).length ≤ 24 by omega) (by decide) (fun i hi => by rw [wI_o (by decide), wI_o (by decide), wI_o (by decide), wI_o (by decide), wI_o (by decide)]; exact hX.2.2.2.1.2 i hi) (by rw [wI_j (by decide), wI_j (by decide), wI_s]; rfl) (by rw [wI_j (by decide), wI_s]; rfl) (by decide) (Or.inl (by decide)) (fun z => ?_) (fun _ _ _ τ1 hF => ?_))
      · exfalso
        rcases z with z | z | z
        · cases z
        · omega
        · omega
      refine x_iconst (v := 0) d_Mo_drive_60 (by decide) ?_
      refine x_istore_n d_Mo_drive_61 rfl rfl ?_
      have f1 : dF σ τ1 := dF.tr (((((dF.rf.w (by simp [drJ])).w (by simp [drJ])).w (by simp [drJ])).w (by simp [drJ])).w (by simp [drJ])) (dF.of hF.1 (by simp [drS]) (fun j hj => hF.2.1 j hj.2.2.1 hj.2.2.2.1))
      have hRt := Rt_beg hgl hF (by rw [wI_s])
      exact Wq.fg (l62 48 48 (by omega) 0 S (dBeg X) τ1 0 (by omega) f1 (DJ_0 hW.2.2.2.1.2 hne) WG_0 HD_0 (fun z => by rw [(dBeg_G hgl).1] at z; cases z) (fun _ => hRt) (fun _ => by
        rw [(dBeg_G hgl).2.1]
        unfold lowO
        rw [if_pos (by rw [hF.2.2.2.2.1 0, if_pos rfl]), nI_0]) rfl) ⟨rfl, rfl, trivial⟩
    · exact absurd (by decide) c20
  refine Ct.of (lv := [some (rf G 391), none]) (ll := []) rfl rfl (EN.cat (n := 1) ⟨rfl, trivial⟩ (Nat.le_of_ble_eq_true rfl)) ?_
  first | refine x_aload_n d_Mo_drive_0 rfl rfl ?_ | refine x_aloadN_n d_Mo_drive_0 rfl rfl ?_ | refine x_aloadE_n d_Mo_drive_0 rfl rfl ?_ | refine x_aloadO_n d_Mo_drive_0 rfl rfl ?_
  first | refine x_aload_n d_Mo_drive_1 rfl rfl ?_ | refine x_aloadN_n d_Mo_drive_1 rfl rfl ?_ | refine x_aloadE_n d_Mo_drive_1 rfl rfl ?_ | refine x_aloadO_n d_Mo_drive_1 rfl rfl ?_
  refine x_getI d_Mo_drive_2 f_Mo_135 rfl (by first | exact hM.1 | exact hM.s rfl | assumption) ?_
  rw [hX.2.2.2.1.1]
  refine x_if_ne (tgt := 12) d_Mo_drive_5 (by decide) (fun c5 => ?_) (fun c5 => ?_)
  · exact hPP (fun z => c5 (by rw [z]; rfl))
  · refine x_iconst (v := 1) d_Mo_drive_8 (by decide) ?_
    refine x_goto (tgt := 13) d_Mo_drive_9 (by decide) ?_
    refine x_putI d_Mo_drive_13 (w_Mo_m_117 _) rfl (by first | rfl | decide) (by first | rfl | decide) (by first | exact hM.1 | exact hM.s rfl | assumption) ?_
    first | refine x_aload_n d_Mo_drive_16 rfl rfl ?_ | refine x_aloadN_n d_Mo_drive_16 rfl rfl ?_ | refine x_aloadE_n d_Mo_drive_16 rfl rfl ?_ | refine x_aloadO_n d_Mo_drive_16 rfl rfl ?_
    refine x_getI d_Mo_drive_17 f_Mo_117 rfl (by first | exact hM.1 | exact hM.s rfl | assumption) ?_
    rw [wI_s]
    refine x_if_le (tgt := 25) d_Mo_drive_20 (by decide) (fun c20 => ?_) (fun c20 => ?_)
    · exact absurd c20 (by decide)
    · refine x_iconst (v := 0) d_Mo_drive_23 (by decide) ?_
      exact x_ireturn d_Mo_drive_24 rfl (by first | rfl | decide) (hE0 (List.eq_nil_of_length_eq_zero ((nI_z (by omega)).mp c5)))
