/-! SuperDriverModel: bind -/
/-- where the first j parts stand -/
def stS (P : Int32 → Int32) (zs : List Int32) (p0 : Nat) (pv : Nat → Nat) (τ : Mem) (j : Nat) : Prop := ∀ i, i < j → (∀ i2, i < i2 → i2 < j → pv i2 ≠ pv i) → τ.1 417 (pv i) = nI (ends P zs p0 i) ∧ τ.1 418 (pv i) = nI (ends P zs p0 (i + 1))
theorem stS.up {P : Int32 → Int32} {zs : List Int32} {p0 j : Nat} {pv : Nat → Nat} {τ : Mem} (h : stS P zs p0 pv τ j) : stS P zs p0 pv (wI (wI τ 417 (pv j) (nI (ends P zs p0 j))) 418 (pv j) (nI (ends P zs p0 (j + 1)))) (j + 1) := by
  intro i hi hl
  by_cases e : i = j
  · subst e
    rw [wI_o (by decide), wI_s, wI_s]
    exact ⟨rfl, rfl⟩
  · have hne : pv j ≠ pv i := hl j (by omega) (by omega)
    rw [wI_o (by decide), wI_j (fun z => hne z.symm), wI_j (fun z => hne z.symm), wI_o (by decide)]
    exact h i (by omega) (fun i2 h1 h2 => hl i2 h1 (by omega))
theorem Wq.top {G : Ctx} {M : Mth} {E : Ev} {bc bs pc : Nat} {lv : List (Option Value)} {ll : List (Nat × Int64)} {st : List Value} {Γ : List Sh} {σ : Mem} {x y : Int32} (h : x = y) (k : Wq G M E bc bs pc lv ll (.int y :: st) Γ σ) : Wq G M E bc bs pc lv ll (.int x :: st) Γ σ := h ▸ k
def b1 (b : Bool) : Nat := if b = true then 1 else 0
set_option maxRecDepth 10000 in
set_option maxHeartbeats 1000000 in
theorem c_Mo_bind {G : Ctx} {d : Nat} {Γ : List Sh} {σ : Mem} {Q : Option Value → List Sh → Mem → Prop} {pt : Nat → Int32} {cs : Nat → Bool} {zs : List Int32} {a k p0 ins prt cnt bb : Nat} {old : Bool} {pv : Nat → Nat} {body : Int32} (hM : MoS Γ σ) (hS : SgOK pt cs) (hR : rwO σ pt cs zs) (ha : a < zs.length) (ek : zs.getD a (-1) = nI k) (hok : okk k) (hcc : cOK σ cs k) (hpk0 : mPk σ k = nI prt) (hp60 : prt ≤ 60) (hp1 : cs k = true → 1 ≤ prt) (hby : cs k = true → ∃ c, c < 6 ∧ zs.getD (a + 1) (-1) = nI (100 + c) ∧ ins = qK c ∧ a + 1 < zs.length) (hbn : cs k = false → ins = 0) (hp0 : p0 = a + (if cs k = true then 2 else 1)) (hp0l : p0 ≤ zs.length) (hcnt : cnt = ins + prt - b1 (cs k)) (hc : full (nP (sgP pt)) (bb + cnt) (zs.drop p0) = true) (ho1 : old = true → k < 300) (ho2 : old = false → 300 ≤ k ∧ k < 348 ∧ prt ≤ 40) (hpv : ∀ j, j < cnt → pv j < 100) (hpo : old = true → ∀ j, pv j = j) (hbi : old = false → vp_in body 48) (hbo : old = false → ∀ τ, FrI [417, 418] σ τ → ∀ j, j < ins → τ.1 409 body.toNatClampNeg + nI j = nI (pv j)) (hpr : old = false → ∀ q, b1 (cs k) ≤ q → q < prt → σ.1 411 (40 * (k - 300) + q) = nI (pv (ins + q - b1 (cs k)))) (hQ : ∀ τ, FrI [417, 418] σ τ → stS (sgP pt) zs p0 pv τ cnt → Q (some (.int (nI (ends (sgP pt) zs p0 cnt)))) Γ τ) : Ct G M_Mo_bind (d + 4) 0 0 [rf G 391, .int (nI a), .int body] Γ σ Q := by
  subst hcnt
  have hzl : zs.length ≤ 1000 := hR.2.2.1
  have hkl := hok.le
  have hal1 : b1 (cs k) ≤ 1 := by unfold b1; split <;> omega
  have hb1p : b1 (cs k) ≤ prt := by
    unfold b1
    split
    · next z => exact hp1 z
    · exact Nat.zero_le _
  have hin2 : ins ≤ 2 := by
    cases hcsk : cs k with
    | true =>
      obtain ⟨c, _, _, e, _⟩ := hby hcsk
      rw [e]
      exact (qK_nat c).1
    | false => rw [hbn hcsk]; omega
  have hel : ∀ j, ends (sgP pt) zs p0 j ≤ zs.length := fun j => ends_le hp0l j
  have l2 : ∀ (f q : Nat) (τ : Mem), b1 (cs k) ≤ q → q ≤ prt → prt < q + f → FrI [417, 418] σ τ → stS (sgP pt) zs p0 pv τ (ins + q - b1 (cs k)) → Wq G M_Mo_bind (Em G (d + 4) 0 0 Q) 0 0 125 [some (rf G 391), some (.int (nI a)), some (.int body), some (.int (nI k)), some (.int (bI (cs k))), some (.int (nI (ends (sgP pt) zs p0 (ins + q - b1 (cs k))))), some (.int (nI ins)), some (.int (bI old)), some (.int (nI (b1 (cs k)))), some (.int (nI q))] [] [] Γ τ := by
    intro f
    induction f with
    | zero => intro q τ h0 hi hk; omega
    | succ f ih =>
    intro q τ h0 hqle hk f0 hst
    have hM := hM.fr f0
    have hR := hR.fr f0 (by simp) (by simp) (by simp) (by simp) (by simp) (by simp)
    have hpk : mPk τ k = nI prt := by unfold mPk; rw [f0.2 393 (by simp), f0.2 412 (by simp)]; exact hpk0
    have helq := hel (ins + q - b1 (cs k))
    refine x_iload d_Mo_bind_125 rfl ?_
    first | refine x_aload_n d_Mo_bind_127 rfl rfl ?_ | refine x_aloadN_n d_Mo_bind_127 rfl rfl ?_ | refine x_aloadE_n d_Mo_bind_127 rfl rfl ?_ | refine x_aloadO_n d_Mo_bind_127 rfl rfl ?_
    refine x_iload_n d_Mo_bind_128 rfl rfl ?_
    refine x_callV1 d_Mo_bind_129 k_Mo_partsOf l_Mo_124 v_Mo_partsOf rfl s_Mo_partsOf (by first | exact hM.1 | exact hM.s rfl | assumption) RoomE.m (Nat.le_of_ble_eq_true rfl) (c_Mo_partsOf hM hok ?_)
    rw [hpk]
    refine x_icmp_ge (tgt := 181) d_Mo_bind_132 (by decide) (fun c132 => ?_) (fun c132 => ?_)
    · have e : q = prt := by have := (nI_leI (by omega) (by omega)).mp c132; omega
      subst e
      refine x_iload d_Mo_bind_181 rfl ?_
      exact x_ireturn d_Mo_bind_183 rfl (by first | rfl | decide) (hQ τ f0 hst)
    · have hqp : q < prt := Nat.not_le.mp fun z => c132 (nI_le z (by omega))
      have hfj : full (nP (sgP pt)) (bb + ((ins + prt - b1 (cs k)) - (ins + q - b1 (cs k)) - 1) + 1) (zs.drop (ends (sgP pt) zs p0 ((ins + q - b1 (cs k))))) = true := by
        have := (full_tk (zs.drop p0) ((ins + q - b1 (cs k))) (bb + ((ins + prt - b1 (cs k)) - (ins + q - b1 (cs k)) - 1) + 1) (by rw [show (ins + q - b1 (cs k)) + (bb + ((ins + prt - b1 (cs k)) - (ins + q - b1 (cs k)) - 1) + 1) = bb + (ins + prt - b1 (cs k)) by omega]; exact hc)).2
        rw [ends_tk hS.1 (by omega), ← List.drop_drop]
        exact this
      have hej : ends (sgP pt) zs p0 ((ins + q - b1 (cs k))) + tk (nP (sgP pt)) 1 (zs.drop (ends (sgP pt) zs p0 ((ins + q - b1 (cs k))))) = ends (sgP pt) zs p0 ((ins + q - b1 (cs k)) + 1) := (behind_tk hS.1 (by omega) _).symm
      first | refine x_aload_n d_Mo_bind_135 rfl rfl ?_ | refine x_aloadN_n d_Mo_bind_135 rfl rfl ?_ | refine x_aloadE_n d_Mo_bind_135 rfl rfl ?_ | refine x_aloadO_n d_Mo_bind_135 rfl rfl ?_
      refine x_iload d_Mo_bind_136 rfl ?_
      refine x_if_eq (tgt := 152) d_Mo_bind_138 (by decide) (fun c138 => ?_) (fun c138 => ?_)
      · first | refine x_aload_n d_Mo_bind_152 rfl rfl ?_ | refine x_aloadN_n d_Mo_bind_152 rfl rfl ?_ | refine x_aloadE_n d_Mo_bind_152 rfl rfl ?_ | refine x_aloadO_n d_Mo_bind_152 rfl rfl ?_
        refine x_getR d_Mo_bind_153 f_Mo_68 rfl (by first | exact hM.1 | exact hM.s rfl | assumption) (hM.r rfl) ?_
        refine x_bipush (v := 40) d_Mo_bind_156 (by decide) ?_
        refine x_iload_n d_Mo_bind_158 rfl rfl ?_
        refine x_sipush (v := 300) d_Mo_bind_159 (by decide) ?_
        refine x_isub d_Mo_bind_162 ?_
        rw [nI_sub300 (by have := ho2 (bI_0 c138); omega)]
        refine x_imul d_Mo_bind_163 ?_
        rw [mul40]
        refine x_iload d_Mo_bind_164 rfl ?_
        refine x_iadd d_Mo_bind_166 ?_
        rw [nI_add]
        refine x_iald d_Mo_bind_167 (by first | exact hM.1 | exact hM.s rfl | assumption) (vp_in_nI (show 40 * (k - 300) + q < 1920 by have := ho2 (bI_0 c138); omega) (by decide)) ?_
        first
        | refine Wq.top (y := nI (pv (ins + q - b1 (cs k)))) (by rw [hpo (bI_n0 c138)]) ?_
        | refine Wq.top (y := nI (pv (ins + q - b1 (cs k)))) (by rw [nI_clamp (by have := ho2 (bI_0 c138); omega), f0.2 411 (by simp), hpr (bI_0 c138) q (by omega) hqp]) ?_
        refine x_iload d_Mo_bind_168 rfl ?_
        refine x_callV2 d_Mo_bind_170 k_Mo_stand l_Mo_167 v_Mo_stand rfl s_Mo_stand (by first | exact hM.1 | exact hM.s rfl | assumption) RoomE.m (Nat.le_of_ble_eq_true rfl) (c_Mo_stand (v := pv (ins + q - b1 (cs k))) (i := ends (sgP pt) zs p0 (ins + q - b1 (cs k))) (m := bb + ((ins + prt - b1 (cs k)) - (ins + q - b1 (cs k)) - 1)) hM hS hR (hpv _ (by omega)) hfj ?_)
        rw [hej]
        refine x_istore d_Mo_bind_173 rfl ?_
        refine x_iinc (v := nI (q + 1)) d_Mo_bind_175 rfl (nI_1 q) rfl ?_
        refine x_goto (tgt := 125) d_Mo_bind_178 (by decide) ?_
        exact Wq.fg (ih (q + 1) _ (by omega) (by omega) (by omega) ((f0.put (by simp)).put (by simp)) (by
          have := hst.up (pv := pv)
          rw [show ins + (q + 1) - b1 (cs k) = (ins + q - b1 (cs k)) + 1 by omega]
          exact this)) ⟨rfl, rfl, rfl, rfl, rfl, by rw [show ins + (q + 1) - b1 (cs k) = (ins + q - b1 (cs k)) + 1 by omega], rfl, rfl, rfl, rfl, trivial⟩
      · refine x_iload d_Mo_bind_141 rfl ?_
        refine x_iload d_Mo_bind_143 rfl ?_
        refine x_iadd d_Mo_bind_145 ?_
        rw [nI_add]
        refine x_iload d_Mo_bind_146 rfl ?_
        refine x_isub d_Mo_bind_148 ?_
        rw [nI_sub (by omega)]
        refine x_goto (tgt := 168) d_Mo_bind_149 (by decide) ?_
        first
        | refine Wq.top (y := nI (pv (ins + q - b1 (cs k)))) (by rw [hpo (bI_n0 c138)]) ?_
        | refine Wq.top (y := nI (pv (ins + q - b1 (cs k)))) (by rw [nI_clamp (by have := ho2 (bI_0 c138); omega), f0.2 411 (by simp), hpr (bI_0 c138) q (by omega) hqp]) ?_
        refine x_iload d_Mo_bind_168 rfl ?_
        refine x_callV2 d_Mo_bind_170 k_Mo_stand l_Mo_167 v_Mo_stand rfl s_Mo_stand (by first | exact hM.1 | exact hM.s rfl | assumption) RoomE.m (Nat.le_of_ble_eq_true rfl) (c_Mo_stand (v := pv (ins + q - b1 (cs k))) (i := ends (sgP pt) zs p0 (ins + q - b1 (cs k))) (m := bb + ((ins + prt - b1 (cs k)) - (ins + q - b1 (cs k)) - 1)) hM hS hR (hpv _ (by omega)) hfj ?_)
        rw [hej]
        refine x_istore d_Mo_bind_173 rfl ?_
        refine x_iinc (v := nI (q + 1)) d_Mo_bind_175 rfl (nI_1 q) rfl ?_
        refine x_goto (tgt := 125) d_Mo_bind_178 (by decide) ?_
        exact Wq.fg (ih (q + 1) _ (by omega) (by omega) (by omega) ((f0.put (by simp)).put (by simp)) (by
          have := hst.up (pv := pv)
          rw [show ins + (q + 1) - b1 (cs k) = (ins + q - b1 (cs k)) + 1 by omega]
          exact this)) ⟨rfl, rfl, rfl, rfl, rfl, by rw [show ins + (q + 1) - b1 (cs k) = (ins + q - b1 (cs k)) + 1 by omega], rfl, rfl, rfl, rfl, trivial⟩
  have l1 : ∀ (f j : Nat) (τ : Mem), j ≤ ins → ins < j + f → FrI [417, 418] σ τ → stS (sgP pt) zs p0 pv τ j → Wq G M_Mo_bind (Em G (d + 4) 0 0 Q) 0 0 69 [some (rf G 391), some (.int (nI a)), some (.int body), some (.int (nI k)), some (.int (bI (cs k))), some (.int (nI (ends (sgP pt) zs p0 j))), some (.int (nI ins)), some (.int (bI old)), some (.int (nI j)), none] [] [] Γ τ := by
    intro f
    induction f with
    | zero => intro j τ hi hk; omega
    | succ f ih =>
    intro j τ hjle hk f0 hst
    have hM := hM.fr f0
    have hR := hR.fr f0 (by simp) (by simp) (by simp) (by simp) (by simp) (by simp)
    have helj := hel j
    refine x_iload d_Mo_bind_69 rfl ?_
    refine x_iload d_Mo_bind_71 rfl ?_
    refine x_icmp_ge (tgt := 109) d_Mo_bind_73 (by decide) (fun c73 => ?_) (fun c73 => ?_)
    · have e : j = ins := by have := (nI_leI (by omega) (by omega)).mp c73; omega
      subst e
      refine x_iload d_Mo_bind_109 rfl ?_
      refine x_if_eq (tgt := 118) d_Mo_bind_111 (by decide) (fun c111 => ?_) (fun c111 => ?_)
      · refine x_iconst (v := 0) d_Mo_bind_118 (by decide) ?_
        refine x_istore d_Mo_bind_119 rfl ?_
        refine x_iload d_Mo_bind_121 rfl ?_
        refine x_istore d_Mo_bind_123 rfl ?_
        exact Wq.fg (l2 (prt + 1) (b1 (cs k)) τ (by omega) (by omega) (by omega) f0 (by rw [show j + b1 (cs k) - b1 (cs k) = j by omega]; exact hst)) ⟨rfl, rfl, rfl, rfl, rfl, by rw [show j + b1 (cs k) - b1 (cs k) = j by omega], rfl, rfl, by first | (rw [bI_0 c111]; rfl) | (rw [bI_n0 c111]; rfl), by first | (rw [bI_0 c111]; rfl) | (rw [bI_n0 c111]; rfl), trivial⟩
      · refine x_iconst (v := 1) d_Mo_bind_114 (by decide) ?_
        refine x_goto (tgt := 119) d_Mo_bind_115 (by decide) ?_
        refine x_istore d_Mo_bind_119 rfl ?_
        refine x_iload d_Mo_bind_121 rfl ?_
        refine x_istore d_Mo_bind_123 rfl ?_
        exact Wq.fg (l2 (prt + 1) (b1 (cs k)) τ (by omega) (by omega) (by omega) f0 (by rw [show j + b1 (cs k) - b1 (cs k) = j by omega]; exact hst)) ⟨rfl, rfl, rfl, rfl, rfl, by rw [show j + b1 (cs k) - b1 (cs k) = j by omega], rfl, rfl, by first | (rw [bI_0 c111]; rfl) | (rw [bI_n0 c111]; rfl), by first | (rw [bI_0 c111]; rfl) | (rw [bI_n0 c111]; rfl), trivial⟩
    · have hji : j < ins := Nat.not_le.mp fun z => c73 (nI_le z (by omega))
      have hfj : full (nP (sgP pt)) (bb + ((ins + prt - b1 (cs k)) - j - 1) + 1) (zs.drop (ends (sgP pt) zs p0 (j))) = true := by
        have := (full_tk (zs.drop p0) (j) (bb + ((ins + prt - b1 (cs k)) - j - 1) + 1) (by rw [show j + (bb + ((ins + prt - b1 (cs k)) - j - 1) + 1) = bb + (ins + prt - b1 (cs k)) by omega]; exact hc)).2
        rw [ends_tk hS.1 (by omega), ← List.drop_drop]
        exact this
      have hej : ends (sgP pt) zs p0 (j) + tk (nP (sgP pt)) 1 (zs.drop (ends (sgP pt) zs p0 (j))) = ends (sgP pt) zs p0 (j + 1) := (behind_tk hS.1 (by omega) _).symm
      first | refine x_aload_n d_Mo_bind_76 rfl rfl ?_ | refine x_aloadN_n d_Mo_bind_76 rfl rfl ?_ | refine x_aloadE_n d_Mo_bind_76 rfl rfl ?_ | refine x_aloadO_n d_Mo_bind_76 rfl rfl ?_
      refine x_iload d_Mo_bind_77 rfl ?_
      refine x_if_eq (tgt := 87) d_Mo_bind_79 (by decide) (fun c79 => ?_) (fun c79 => ?_)
      · first | refine x_aload_n d_Mo_bind_87 rfl rfl ?_ | refine x_aloadN_n d_Mo_bind_87 rfl rfl ?_ | refine x_aloadE_n d_Mo_bind_87 rfl rfl ?_ | refine x_aloadO_n d_Mo_bind_87 rfl rfl ?_
        refine x_getR d_Mo_bind_88 f_Mo_62 rfl (by first | exact hM.1 | exact hM.s rfl | assumption) (hM.r rfl) ?_
        refine x_iload_n d_Mo_bind_91 rfl rfl ?_
        refine x_iald d_Mo_bind_92 (by first | exact hM.1 | exact hM.s rfl | assumption) (hbi (bI_0 c79)) ?_
        refine x_iload d_Mo_bind_93 rfl ?_
        refine x_iadd d_Mo_bind_95 ?_
        first
        | refine Wq.top (y := nI (pv j)) (by rw [hpo (bI_n0 c79)]) ?_
        | refine Wq.top (y := nI (pv j)) (hbo (bI_0 c79) τ f0 j hji) ?_
        refine x_iload d_Mo_bind_96 rfl ?_
        refine x_callV2 d_Mo_bind_98 k_Mo_stand l_Mo_167 v_Mo_stand rfl s_Mo_stand (by first | exact hM.1 | exact hM.s rfl | assumption) RoomE.m (Nat.le_of_ble_eq_true rfl) (c_Mo_stand (v := pv j) (i := ends (sgP pt) zs p0 j) (m := bb + ((ins + prt - b1 (cs k)) - j - 1)) hM hS hR (hpv _ (by omega)) hfj ?_)
        rw [hej]
        refine x_istore d_Mo_bind_101 rfl ?_
        refine x_iinc (v := nI (j + 1)) d_Mo_bind_103 rfl (nI_1 j) rfl ?_
        refine x_goto (tgt := 69) d_Mo_bind_106 (by decide) ?_
        exact Wq.fg (ih (j + 1) _ (by omega) (by omega) ((f0.put (by simp)).put (by simp)) hst.up) ⟨rfl, rfl, rfl, rfl, rfl, rfl, rfl, rfl, rfl, trivial⟩
      · refine x_iload d_Mo_bind_82 rfl ?_
        refine x_goto (tgt := 96) d_Mo_bind_84 (by decide) ?_
        first
        | refine Wq.top (y := nI (pv j)) (by rw [hpo (bI_n0 c79)]) ?_
        | refine Wq.top (y := nI (pv j)) (hbo (bI_0 c79) τ f0 j hji) ?_
        refine x_iload d_Mo_bind_96 rfl ?_
        refine x_callV2 d_Mo_bind_98 k_Mo_stand l_Mo_167 v_Mo_stand rfl s_Mo_stand (by first | exact hM.1 | exact hM.s rfl | assumption) RoomE.m (Nat.le_of_ble_eq_true rfl) (c_Mo_stand (v := pv j) (i := ends (sgP pt) zs p0 j) (m := bb + ((ins + prt - b1 (cs k)) - j - 1)) hM hS hR (hpv _ (by omega)) hfj ?_)
        rw [hej]
        refine x_istore d_Mo_bind_101 rfl ?_
        refine x_iinc (v := nI (j + 1)) d_Mo_bind_103 rfl (nI_1 j) rfl ?_
        refine x_goto (tgt := 69) d_Mo_bind_106 (by decide) ?_
        exact Wq.fg (ih (j + 1) _ (by omega) (by omega) ((f0.put (by simp)).put (by simp)) hst.up) ⟨rfl, rfl, rfl, rfl, rfl, rfl, rfl, rfl, rfl, trivial⟩
  refine Ct.of (lv := [some (rf G 391), some (.int (nI a)), some (.int body), none, none, none, none, none, none, none]) (ll := []) rfl rfl (EN.cat (n := 7) ⟨rfl, rfl, rfl, trivial⟩ (Nat.le_of_ble_eq_true rfl)) ?_
  first | refine x_aload_n d_Mo_bind_0 rfl rfl ?_ | refine x_aloadN_n d_Mo_bind_0 rfl rfl ?_ | refine x_aloadE_n d_Mo_bind_0 rfl rfl ?_ | refine x_aloadO_n d_Mo_bind_0 rfl rfl ?_
  refine x_getR d_Mo_bind_1 f_Mo_80 rfl (by first | exact hM.1 | exact hM.s rfl | assumption) (hM.r rfl) ?_
  refine x_iload_n d_Mo_bind_4 rfl rfl ?_
  refine x_iald d_Mo_bind_5 (by first | exact hM.1 | exact hM.s rfl | assumption) (vp_in_nI (show a < 20400 by omega) (by decide)) ?_
  rw [nI_clamp (by omega), show σ.1 415 a = zs.getD a (-1) by have := hR.2.1 a ha; rw [Nat.zero_add] at this; exact this, ek]
  refine x_istore_n d_Mo_bind_6 rfl rfl ?_
  first | refine x_aload_n d_Mo_bind_7 rfl rfl ?_ | refine x_aloadN_n d_Mo_bind_7 rfl rfl ?_ | refine x_aloadE_n d_Mo_bind_7 rfl rfl ?_ | refine x_aloadO_n d_Mo_bind_7 rfl rfl ?_
  refine x_iload_n d_Mo_bind_8 rfl rfl ?_
  refine x_callV1 d_Mo_bind_9 k_Mo_isCased l_Mo_160 v_Mo_isCased rfl s_Mo_isCased (by first | exact hM.1 | exact hM.s rfl | assumption) RoomE.m (Nat.le_of_ble_eq_true rfl) (c_Mo_isCased hM hcc ?_)
  refine x_istore d_Mo_bind_12 rfl ?_
  refine x_iload d_Mo_bind_14 rfl ?_
  refine x_if_eq (tgt := 25) d_Mo_bind_16 (by decide) (fun c16 => ?_) (fun c16 => ?_)
  · refine x_iload_n d_Mo_bind_25 rfl rfl ?_
    refine x_iconst (v := 1) d_Mo_bind_26 (by decide) ?_
    skip
    refine x_iadd d_Mo_bind_27 ?_
    skip
    refine x_istore d_Mo_bind_28 rfl ?_
    refine x_iload d_Mo_bind_30 rfl ?_
    refine x_if_eq (tgt := 49) d_Mo_bind_32 (by decide) (fun c32 => ?_) (fun c32 => ?_)
    · refine x_iconst (v := 0) d_Mo_bind_49 (by decide) ?_
      refine x_istore d_Mo_bind_50 rfl ?_
      refine x_iload_n d_Mo_bind_52 rfl rfl ?_
      refine x_sipush (v := 300) d_Mo_bind_53 (by decide) ?_
      refine x_icmp_ge (tgt := 63) d_Mo_bind_56 (by decide) (fun c56 => ?_) (fun c56 => ?_)
      · refine x_iconst (v := 0) d_Mo_bind_63 (by decide) ?_
        refine x_istore d_Mo_bind_64 rfl ?_
        refine x_iconst (v := 0) d_Mo_bind_66 (by decide) ?_
        refine x_istore d_Mo_bind_67 rfl ?_
        first
        | (exact absurd c16 (by rw [bI_n0 c32]; decide))
        | (exact absurd c32 (by rw [bI_n0 c16]; decide))
        | exact Wq.fg (l1 (ins + 1) 0 σ (by omega) (by omega) FrI.rf (fun i hi => absurd hi (Nat.not_lt_zero _))) ⟨rfl, rfl, rfl, rfl, rfl, by
            first
            | (rw [hp0, bI_0 c16]; rw [nI_1]; rfl)
            | (rw [hp0, bI_n0 c16]; rfl), by first | rfl | (rw [hbn (bI_0 c32), nI_0]), by
            first
            | (cases old with
               | true => exact absurd ((nI_leI (by decide) (by omega)).mp (show nI 300 ≤ nI k from c56)) (by have := ho1 rfl; omega)
               | false => rfl)
            | (cases old with
               | true => rfl
               | false => exact absurd (nI_le (ho2 rfl).1 (by omega)) c56), by rw [nI_0], trivial⟩
      · refine x_iconst (v := 1) d_Mo_bind_59 (by decide) ?_
        refine x_goto (tgt := 64) d_Mo_bind_60 (by decide) ?_
        refine x_istore d_Mo_bind_64 rfl ?_
        refine x_iconst (v := 0) d_Mo_bind_66 (by decide) ?_
        refine x_istore d_Mo_bind_67 rfl ?_
        first
        | (exact absurd c16 (by rw [bI_n0 c32]; decide))
        | (exact absurd c32 (by rw [bI_n0 c16]; decide))
        | exact Wq.fg (l1 (ins + 1) 0 σ (by omega) (by omega) FrI.rf (fun i hi => absurd hi (Nat.not_lt_zero _))) ⟨rfl, rfl, rfl, rfl, rfl, by
            first
            | (rw [hp0, bI_0 c16]; rw [nI_1]; rfl)
            | (rw [hp0, bI_n0 c16]; rfl), by first | rfl | (rw [hbn (bI_0 c32), nI_0]), by
            first
            | (cases old with
               | true => exact absurd ((nI_leI (by decide) (by omega)).mp (show nI 300 ≤ nI k from c56)) (by have := ho1 rfl; omega)
               | false => rfl)
            | (cases old with
               | true => rfl
               | false => exact absurd (nI_le (ho2 rfl).1 (by omega)) c56), by rw [nI_0], trivial⟩
    · first | refine x_aload_n d_Mo_bind_35 rfl rfl ?_ | refine x_aloadN_n d_Mo_bind_35 rfl rfl ?_ | refine x_aloadE_n d_Mo_bind_35 rfl rfl ?_ | refine x_aloadO_n d_Mo_bind_35 rfl rfl ?_
      refine x_getR d_Mo_bind_36 f_Mo_80 rfl (by first | exact hM.1 | exact hM.s rfl | assumption) (hM.r rfl) ?_
      refine x_iload_n d_Mo_bind_39 rfl rfl ?_
      refine x_iconst (v := 1) d_Mo_bind_40 (by decide) ?_
      refine x_iadd d_Mo_bind_41 ?_
      rw [nI_1]
      refine x_iald d_Mo_bind_42 (by first | exact hM.1 | exact hM.s rfl | assumption) (vp_in_nI (show a + 1 < 20400 by omega) (by decide)) ?_
      obtain ⟨c, hc6, ec, ein, hal1⟩ := hby (bI_n0 c32)
      rw [nI_clamp (by omega), show σ.1 415 (a + 1) = zs.getD (a + 1) (-1) by have := hR.2.1 (a + 1) hal1; rw [Nat.zero_add] at this; exact this, ec]
      refine x_callS1 d_Mo_bind_43 k_Mo_builtOf l_Mo_120 z_Mo_builtOf RoomE.m (Nat.le_of_ble_eq_true rfl) (c_Mo_builtOf ?_)
      rw [bO_c hc6, (qK_nat c).2, ← ein]
      refine x_goto (tgt := 50) d_Mo_bind_46 (by decide) ?_
      refine x_istore d_Mo_bind_50 rfl ?_
      refine x_iload_n d_Mo_bind_52 rfl rfl ?_
      refine x_sipush (v := 300) d_Mo_bind_53 (by decide) ?_
      refine x_icmp_ge (tgt := 63) d_Mo_bind_56 (by decide) (fun c56 => ?_) (fun c56 => ?_)
      · refine x_iconst (v := 0) d_Mo_bind_63 (by decide) ?_
        refine x_istore d_Mo_bind_64 rfl ?_
        refine x_iconst (v := 0) d_Mo_bind_66 (by decide) ?_
        refine x_istore d_Mo_bind_67 rfl ?_
        first
        | (exact absurd c16 (by rw [bI_n0 c32]; decide))
        | (exact absurd c32 (by rw [bI_n0 c16]; decide))
        | exact Wq.fg (l1 (ins + 1) 0 σ (by omega) (by omega) FrI.rf (fun i hi => absurd hi (Nat.not_lt_zero _))) ⟨rfl, rfl, rfl, rfl, rfl, by
            first
            | (rw [hp0, bI_0 c16]; rw [nI_1]; rfl)
            | (rw [hp0, bI_n0 c16]; rfl), by first | rfl | (rw [hbn (bI_0 c32), nI_0]), by
            first
            | (cases old with
               | true => exact absurd ((nI_leI (by decide) (by omega)).mp (show nI 300 ≤ nI k from c56)) (by have := ho1 rfl; omega)
               | false => rfl)
            | (cases old with
               | true => rfl
               | false => exact absurd (nI_le (ho2 rfl).1 (by omega)) c56), by rw [nI_0], trivial⟩
      · refine x_iconst (v := 1) d_Mo_bind_59 (by decide) ?_
        refine x_goto (tgt := 64) d_Mo_bind_60 (by decide) ?_
        refine x_istore d_Mo_bind_64 rfl ?_
        refine x_iconst (v := 0) d_Mo_bind_66 (by decide) ?_
        refine x_istore d_Mo_bind_67 rfl ?_
        first
        | (exact absurd c16 (by rw [bI_n0 c32]; decide))
        | (exact absurd c32 (by rw [bI_n0 c16]; decide))
        | exact Wq.fg (l1 (ins + 1) 0 σ (by omega) (by omega) FrI.rf (fun i hi => absurd hi (Nat.not_lt_zero _))) ⟨rfl, rfl, rfl, rfl, rfl, by
            first
            | (rw [hp0, bI_0 c16]; rw [nI_1]; rfl)
            | (rw [hp0, bI_n0 c16]; rfl), by first | rfl | (rw [hbn (bI_0 c32), nI_0]), by
            first
            | (cases old with
               | true => exact absurd ((nI_leI (by decide) (by omega)).mp (show nI 300 ≤ nI k from c56)) (by have := ho1 rfl; omega)
               | false => rfl)
            | (cases old with
               | true => rfl
               | false => exact absurd (nI_le (ho2 rfl).1 (by omega)) c56), by rw [nI_0], trivial⟩
  · refine x_iload_n d_Mo_bind_19 rfl rfl ?_
    refine x_iconst (v := 2) d_Mo_bind_20 (by decide) ?_
    refine x_iadd d_Mo_bind_21 ?_
    rw [show (2 : Int32) = nI 2 from rfl, nI_add]
    refine x_goto (tgt := 28) d_Mo_bind_22 (by decide) ?_
    skip
    refine x_istore d_Mo_bind_28 rfl ?_
    refine x_iload d_Mo_bind_30 rfl ?_
    refine x_if_eq (tgt := 49) d_Mo_bind_32 (by decide) (fun c32 => ?_) (fun c32 => ?_)
    · refine x_iconst (v := 0) d_Mo_bind_49 (by decide) ?_
      refine x_istore d_Mo_bind_50 rfl ?_
      refine x_iload_n d_Mo_bind_52 rfl rfl ?_
      refine x_sipush (v := 300) d_Mo_bind_53 (by decide) ?_
      refine x_icmp_ge (tgt := 63) d_Mo_bind_56 (by decide) (fun c56 => ?_) (fun c56 => ?_)
      · refine x_iconst (v := 0) d_Mo_bind_63 (by decide) ?_
        refine x_istore d_Mo_bind_64 rfl ?_
        refine x_iconst (v := 0) d_Mo_bind_66 (by decide) ?_
        refine x_istore d_Mo_bind_67 rfl ?_
        first
        | (exact absurd c16 (by rw [bI_n0 c32]; decide))
        | (exact absurd c32 (by rw [bI_n0 c16]; decide))
        | exact Wq.fg (l1 (ins + 1) 0 σ (by omega) (by omega) FrI.rf (fun i hi => absurd hi (Nat.not_lt_zero _))) ⟨rfl, rfl, rfl, rfl, rfl, by
            first
            | (rw [hp0, bI_0 c16]; rw [nI_1]; rfl)
            | (rw [hp0, bI_n0 c16]; rfl), by first | rfl | (rw [hbn (bI_0 c32), nI_0]), by
            first
            | (cases old with
               | true => exact absurd ((nI_leI (by decide) (by omega)).mp (show nI 300 ≤ nI k from c56)) (by have := ho1 rfl; omega)
               | false => rfl)
            | (cases old with
               | true => rfl
               | false => exact absurd (nI_le (ho2 rfl).1 (by omega)) c56), by rw [nI_0], trivial⟩
      · refine x_iconst (v := 1) d_Mo_bind_59 (by decide) ?_
        refine x_goto (tgt := 64) d_Mo_bind_60 (by decide) ?_
        refine x_istore d_Mo_bind_64 rfl ?_
        refine x_iconst (v := 0) d_Mo_bind_66 (by decide) ?_
        refine x_istore d_Mo_bind_67 rfl ?_
        first
        | (exact absurd c16 (by rw [bI_n0 c32]; decide))
        | (exact absurd c32 (by rw [bI_n0 c16]; decide))
        | exact Wq.fg (l1 (ins + 1) 0 σ (by omega) (by omega) FrI.rf (fun i hi => absurd hi (Nat.not_lt_zero _))) ⟨rfl, rfl, rfl, rfl, rfl, by
            first
            | (rw [hp0, bI_0 c16]; rw [nI_1]; rfl)
            | (rw [hp0, bI_n0 c16]; rfl), by first | rfl | (rw [hbn (bI_0 c32), nI_0]), by
            first
            | (cases old with
               | true => exact absurd ((nI_leI (by decide) (by omega)).mp (show nI 300 ≤ nI k from c56)) (by have := ho1 rfl; omega)
               | false => rfl)
            | (cases old with
               | true => rfl
               | false => exact absurd (nI_le (ho2 rfl).1 (by omega)) c56), by rw [nI_0], trivial⟩
    · first | refine x_aload_n d_Mo_bind_35 rfl rfl ?_ | refine x_aloadN_n d_Mo_bind_35 rfl rfl ?_ | refine x_aloadE_n d_Mo_bind_35 rfl rfl ?_ | refine x_aloadO_n d_Mo_bind_35 rfl rfl ?_
      refine x_getR d_Mo_bind_36 f_Mo_80 rfl (by first | exact hM.1 | exact hM.s rfl | assumption) (hM.r rfl) ?_
      refine x_iload_n d_Mo_bind_39 rfl rfl ?_
      refine x_iconst (v := 1) d_Mo_bind_40 (by decide) ?_
      refine x_iadd d_Mo_bind_41 ?_
      rw [nI_1]
      refine x_iald d_Mo_bind_42 (by first | exact hM.1 | exact hM.s rfl | assumption) (vp_in_nI (show a + 1 < 20400 by omega) (by decide)) ?_
      obtain ⟨c, hc6, ec, ein, hal1⟩ := hby (bI_n0 c32)
      rw [nI_clamp (by omega), show σ.1 415 (a + 1) = zs.getD (a + 1) (-1) by have := hR.2.1 (a + 1) hal1; rw [Nat.zero_add] at this; exact this, ec]
      refine x_callS1 d_Mo_bind_43 k_Mo_builtOf l_Mo_120 z_Mo_builtOf RoomE.m (Nat.le_of_ble_eq_true rfl) (c_Mo_builtOf ?_)
      rw [bO_c hc6, (qK_nat c).2, ← ein]
      refine x_goto (tgt := 50) d_Mo_bind_46 (by decide) ?_
      refine x_istore d_Mo_bind_50 rfl ?_
      refine x_iload_n d_Mo_bind_52 rfl rfl ?_
      refine x_sipush (v := 300) d_Mo_bind_53 (by decide) ?_
      refine x_icmp_ge (tgt := 63) d_Mo_bind_56 (by decide) (fun c56 => ?_) (fun c56 => ?_)
      · refine x_iconst (v := 0) d_Mo_bind_63 (by decide) ?_
        refine x_istore d_Mo_bind_64 rfl ?_
        refine x_iconst (v := 0) d_Mo_bind_66 (by decide) ?_
        refine x_istore d_Mo_bind_67 rfl ?_
        first
        | (exact absurd c16 (by rw [bI_n0 c32]; decide))
        | (exact absurd c32 (by rw [bI_n0 c16]; decide))
        | exact Wq.fg (l1 (ins + 1) 0 σ (by omega) (by omega) FrI.rf (fun i hi => absurd hi (Nat.not_lt_zero _))) ⟨rfl, rfl, rfl, rfl, rfl, by
            first
            | (rw [hp0, bI_0 c16]; rw [nI_1]; rfl)
            | (rw [hp0, bI_n0 c16]; rfl), by first | rfl | (rw [hbn (bI_0 c32), nI_0]), by
            first
            | (cases old with
               | true => exact absurd ((nI_leI (by decide) (by omega)).mp (show nI 300 ≤ nI k from c56)) (by have := ho1 rfl; omega)
               | false => rfl)
            | (cases old with
               | true => rfl
               | false => exact absurd (nI_le (ho2 rfl).1 (by omega)) c56), by rw [nI_0], trivial⟩
      · refine x_iconst (v := 1) d_Mo_bind_59 (by decide) ?_
        refine x_goto (tgt := 64) d_Mo_bind_60 (by decide) ?_
        refine x_istore d_Mo_bind_64 rfl ?_
        refine x_iconst (v := 0) d_Mo_bind_66 (by decide) ?_
        refine x_istore d_Mo_bind_67 rfl ?_
        first
        | (exact absurd c16 (by rw [bI_n0 c32]; decide))
        | (exact absurd c32 (by rw [bI_n0 c16]; decide))
        | exact Wq.fg (l1 (ins + 1) 0 σ (by omega) (by omega) FrI.rf (fun i hi => absurd hi (Nat.not_lt_zero _))) ⟨rfl, rfl, rfl, rfl, rfl, by
            first
            | (rw [hp0, bI_0 c16]; rw [nI_1]; rfl)
            | (rw [hp0, bI_n0 c16]; rfl), by first | rfl | (rw [hbn (bI_0 c32), nI_0]), by
            first
            | (cases old with
               | true => exact absurd ((nI_leI (by decide) (by omega)).mp (show nI 300 ≤ nI k from c56)) (by have := ho1 rfl; omega)
               | false => rfl)
            | (cases old with
               | true => rfl
               | false => exact absurd (nI_le (ho2 rfl).1 (by omega)) c56), by rw [nI_0], trivial⟩
