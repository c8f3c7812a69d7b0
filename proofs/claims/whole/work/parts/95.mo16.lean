/-! SuperDriverModel: unfold, from its loops on -/
theorem uS_last {P : Int32 → Int32} {zs : List Int32} {pv : Nat → Nat} {p0 k : Nat} (hk : k < 100) : ∀ (cnt : Nat), (∀ j, j < cnt → pv j < 2000000) → (∃ j, j < cnt ∧ pv j = k) → ∃ j, j < cnt ∧ pv j = k ∧ (∀ i2, j < i2 → i2 < cnt → pv i2 ≠ pv j) ∧ uS P zs (fun j => nI (pv j)) p0 cnt (nI k) = (zs.take (ends P zs p0 (j + 1))).drop (ends P zs p0 j)
  | 0, _, ⟨j, hj, _⟩ => absurd hj (Nat.not_lt_zero _)
  | cnt + 1, hb, ⟨j, hj, hjk⟩ => by
    unfold uS
    by_cases e : pv cnt = k
    · rw [if_pos ⟨by rw [isV_n (by omega), decide_eq_true hk], by rw [e]⟩]
      exact ⟨cnt, Nat.lt_succ_self _, e, fun i2 h1 h2 => by omega, rfl⟩
    · rw [if_neg (fun z => e (nI_inj z.2 (by omega) (hb cnt (by omega))).symm)]
      have hjc : j < cnt := by
        have : j ≠ cnt := fun z => e (by rw [← z]; exact hjk)
        omega
      obtain ⟨j', g1, g2, g3, g4⟩ := uS_last hk cnt (fun j hj => hb j (by omega)) ⟨j, hjc, hjk⟩
      refine ⟨j', by omega, g2, fun i2 h1 h2 => ?_, g4⟩
      by_cases z : i2 = cnt
      · rw [z, g2]; exact e
      · exact g3 i2 h1 (by omega)
theorem uS_cons {P : Int32 → Int32} {zs : List Int32} {pv : Nat → Int32} {p0 cnt k : Nat} (hk : 100 ≤ k) (hk4 : k ≤ 400) : uS P zs pv p0 cnt (nI k) = [nI k] := by
  rcases uS_cases (P := P) (zs := zs) (pv := pv) (p0 := p0) (s := nI k) cnt with h | ⟨j, _, h2, _⟩
  · exact h.1
  · rw [isV_n (by omega)] at h2
    have := of_decide_eq_true h2
    omega
theorem seg_app {σ : Mem} {c p x : Nat} {l : List Int32} {v : Int32} (h : seg σ c p l) (hx : x = p + l.length) : seg (wI σ c x v) c p (l ++ [v]) := fun i hi => by
  rw [List.length_append] at hi
  have hi' : i < l.length + 1 := hi
  by_cases e : i = l.length
  · rw [e, hx, wI_s, List.getD_eq_getElem?_getD, List.getElem?_append_right (Nat.le_refl _), Nat.sub_self]; rfl
  · rw [wI_j (by omega), h i (by omega), List.getD_eq_getElem?_getD, List.getD_eq_getElem?_getD, List.getElem?_append_left (by omega)]
theorem take_s {l : List Int32} {i : Nat} (h : i < l.length) : l.take (i + 1) = l.take i ++ [l.getD i (-1)] := by
  rw [List.take_succ, List.getD_eq_getElem?_getD, List.getElem?_eq_getElem h]; rfl
theorem td_s {l : List Int32} {i f : Nat} (h : i < l.length) (hf : f ≤ i) : (l.take (i + 1)).drop f = (l.take i).drop f ++ [l.getD i (-1)] := by
  rw [take_s h, List.drop_append_of_le_length (by rw [List.length_take]; omega)]
set_option maxRecDepth 10000 in
set_option maxHeartbeats 1000000 in
theorem unf_tail {G : Ctx} {D : Nat} {Γ : List Sh} {σ : Mem} {Q : Option Value → List Sh → Mem → Prop} {pt : Nat → Int32} {zs bs L : List Int32} {a e cf beg Nf p0 cnt : Nat} {pv : Nat → Nat} {bi ol : Int32} (hM0 : MoS Γ σ) (hsz : σ.1 391 30 = nI zs.length) (hzs : seg σ 415 0 zs) (hzl : zs.length ≤ 1000) (ha : a < zs.length) (he : e = ends (sgP pt) zs p0 cnt) (hp0l : p0 ≤ zs.length) (hsf : Γ[cf]? = some (1, Nf)) (hcf : cf ∉ [416]) (hN : beg + bs.length ≤ Nf) (hN2 : Nf ≤ 30000) (hbs : seg σ cf beg bs) (hbk : ∀ s ∈ bs, ∃ k, s = nI k ∧ k ≤ 400 ∧ (k < 100 → ∃ j, j < cnt ∧ pv j = k)) (hpb : ∀ j, j < cnt → pv j < 2000000) (hst : stS (sgP pt) zs p0 pv σ cnt) (hL : L = zs.take a ++ bs.flatMap (uS (sgP pt) zs (fun j => nI (pv j)) p0 cnt) ++ zs.drop e) (hLl : L.length ≤ 20400) (hQ : ∀ τ, FrI [415, 416] σ τ → seg τ 415 0 L → Q none Γ (wI τ 391 30 (nI L.length))) : Wq G M_Mo_unfold (Em G D 0 0 Q) 0 0 87 [some (rf G 391), some (.int (nI a)), some (.int bi), some (.int ol), some (.int (nI e)), some (rf G cf), some (.int (nI beg)), some (.int (nI bs.length)), none, none, none] [] [] Γ σ := by
  have hel : ∀ j, ends (sgP pt) zs p0 j ≤ zs.length := fun j => ends_le hp0l j
  have hele : e ≤ zs.length := by rw [he]; exact hel _
  have hLz : L.length = a + (bs.flatMap (uS (sgP pt) zs (fun j => nI (pv j)) p0 cnt)).length + (zs.length - e) := by
    rw [hL, List.length_append, List.length_append, List.length_take, List.length_drop, Nat.min_eq_left (by omega)]
  have le : ∀ (f : Nat) (i : Nat) (τ : Mem), i ≤ L.length → L.length < i + f → FrI [415, 416] σ τ → seg τ 416 0 L → seg τ 415 0 (L.take i) → Wq G M_Mo_unfold (Em G D 0 0 Q) 0 0 256 [some (rf G 391), some (.int (nI a)), some (.int bi), some (.int ol), some (.int (nI e)), some (rf G cf), some (.int (nI beg)), some (.int (nI bs.length)), some (.int (nI L.length)), some (.int (nI i)), none] [] [] Γ τ := by
    intro f
    induction f with
    | zero => intro i τ h1 h2; omega
    | succ f ih =>
    intro i τ hi hk f0 hoth hrow
    have hM := hM0.fr f0
    refine x_iload d_Mo_unfold_256 rfl ?_
    refine x_iload d_Mo_unfold_258 rfl ?_
    refine x_icmp_ge (tgt := 283) d_Mo_unfold_260 (by decide) (fun c260 => ?_) (fun c260 => ?_)
    · have e : i = L.length := by have := (nI_leI (by omega) (by omega)).mp c260; omega
      subst e
      first | refine x_aload_n d_Mo_unfold_283 rfl rfl ?_ | refine x_aloadN_n d_Mo_unfold_283 rfl rfl ?_ | refine x_aloadE_n d_Mo_unfold_283 rfl rfl ?_ | refine x_aloadO_n d_Mo_unfold_283 rfl rfl ?_
      refine x_iload d_Mo_unfold_284 rfl ?_
      refine x_putI d_Mo_unfold_286 (w_Mo_m_157 _) rfl (by first | rfl | decide) (by first | rfl | decide) (by first | exact hM.1 | exact hM.s rfl | assumption) ?_
      exact x_return d_Mo_unfold_289 rfl (hQ τ f0 (by rw [List.take_length] at hrow; exact hrow))
    · have hil : i < L.length := Nat.not_le.mp fun z => c260 (nI_le z (by omega))
      first | refine x_aload_n d_Mo_unfold_263 rfl rfl ?_ | refine x_aloadN_n d_Mo_unfold_263 rfl rfl ?_ | refine x_aloadE_n d_Mo_unfold_263 rfl rfl ?_ | refine x_aloadO_n d_Mo_unfold_263 rfl rfl ?_
      refine x_getR d_Mo_unfold_264 f_Mo_80 rfl (by first | exact hM.1 | exact hM.s rfl | assumption) (hM.r rfl) ?_
      refine x_iload d_Mo_unfold_267 rfl ?_
      first | refine x_aload_n d_Mo_unfold_269 rfl rfl ?_ | refine x_aloadN_n d_Mo_unfold_269 rfl rfl ?_ | refine x_aloadE_n d_Mo_unfold_269 rfl rfl ?_ | refine x_aloadO_n d_Mo_unfold_269 rfl rfl ?_
      refine x_getR d_Mo_unfold_270 f_Mo_83 rfl (by first | exact hM.1 | exact hM.s rfl | assumption) (hM.r rfl) ?_
      refine x_iload d_Mo_unfold_273 rfl ?_
      refine x_iald d_Mo_unfold_275 (by first | exact hM.1 | exact hM.s rfl | assumption) (vp_in_nI (show i < 20400 by omega) (by decide)) ?_
      rw [nI_clamp (by omega), show τ.1 416 i = L.getD i (-1) by have := hoth i hil; rw [Nat.zero_add] at this; exact this]
      refine x_iast d_Mo_unfold_276 (by first | exact hM.1 | exact hM.s rfl | assumption) (vp_in_nI (show i < 20400 by omega) (by decide)) ?_
      rw [nI_clamp (by omega)]
      refine x_iinc (v := nI (i + 1)) d_Mo_unfold_277 rfl (nI_1 i) rfl ?_
      refine x_goto (tgt := 256) d_Mo_unfold_280 (by decide) ?_
      exact Wq.fg (ih (i + 1) _ (by omega) (by omega) (f0.put (by simp)) (fun j hj => by rw [wI_o (by decide)]; exact hoth j hj) (by
        rw [take_s hil]
        exact seg_app hrow (by rw [List.length_take]; omega))) ⟨rfl, rfl, rfl, rfl, rfl, rfl, rfl, rfl, rfl, rfl, trivial⟩
  have ld : ∀ (f : Nat) (i : Nat) (W : List Int32) (τ : Mem), i ≤ zs.length → zs.length < i + f → W ++ zs.drop i = L → FrI [416] σ τ → seg τ 416 0 W → Wq G M_Mo_unfold (Em G D 0 0 Q) 0 0 221 [some (rf G 391), some (.int (nI a)), some (.int bi), some (.int ol), some (.int (nI e)), some (rf G cf), some (.int (nI beg)), some (.int (nI bs.length)), some (.int (nI W.length)), some (.int (nI i)), none] [] [] Γ τ := by
    intro f
    induction f with
    | zero => intro i W τ h1 h2; omega
    | succ f ih =>
    intro i W τ hi hk hW f0 hoth
    have hM := hM0.fr f0
    refine x_iload d_Mo_unfold_221 rfl ?_
    first | refine x_aload_n d_Mo_unfold_223 rfl rfl ?_ | refine x_aloadN_n d_Mo_unfold_223 rfl rfl ?_ | refine x_aloadE_n d_Mo_unfold_223 rfl rfl ?_ | refine x_aloadO_n d_Mo_unfold_223 rfl rfl ?_
    refine x_getI d_Mo_unfold_224 f_Mo_157 rfl (by first | exact hM.1 | exact hM.s rfl | assumption) ?_
    rw [f0.2 391 (by simp), hsz]
    refine x_icmp_ge (tgt := 253) d_Mo_unfold_227 (by decide) (fun c227 => ?_) (fun c227 => ?_)
    · have e : i = zs.length := by have := (nI_leI (by omega) (by omega)).mp c227; omega
      rw [e, List.drop_length, List.append_nil] at hW
      subst hW
      refine x_iconst (v := 0) d_Mo_unfold_253 (by decide) ?_
      refine x_istore d_Mo_unfold_254 rfl ?_
      exact Wq.fg (le (W.length + 1) 0 τ (by omega) (by omega) (f0.mono (by simp)) hoth seg.nil) ⟨rfl, rfl, rfl, rfl, rfl, rfl, rfl, rfl, rfl, by rw [nI_0], trivial⟩
    · have hil : i < zs.length := Nat.not_le.mp fun z => c227 (nI_le z (by omega))
      have hlen : W.length + (zs.length - i) = L.length := by rw [← hW, List.length_append, List.length_drop]
      first | refine x_aload_n d_Mo_unfold_230 rfl rfl ?_ | refine x_aloadN_n d_Mo_unfold_230 rfl rfl ?_ | refine x_aloadE_n d_Mo_unfold_230 rfl rfl ?_ | refine x_aloadO_n d_Mo_unfold_230 rfl rfl ?_
      refine x_getR d_Mo_unfold_231 f_Mo_83 rfl (by first | exact hM.1 | exact hM.s rfl | assumption) (hM.r rfl) ?_
      refine x_iload d_Mo_unfold_234 rfl ?_
      first | refine x_aload_n d_Mo_unfold_236 rfl rfl ?_ | refine x_aloadN_n d_Mo_unfold_236 rfl rfl ?_ | refine x_aloadE_n d_Mo_unfold_236 rfl rfl ?_ | refine x_aloadO_n d_Mo_unfold_236 rfl rfl ?_
      refine x_getR d_Mo_unfold_237 f_Mo_80 rfl (by first | exact hM.1 | exact hM.s rfl | assumption) (hM.r rfl) ?_
      refine x_iload d_Mo_unfold_240 rfl ?_
      refine x_iald d_Mo_unfold_242 (by first | exact hM.1 | exact hM.s rfl | assumption) (vp_in_nI (show i < 20400 by omega) (by decide)) ?_
      rw [nI_clamp (by omega), show τ.1 415 (i) = zs.getD (i) (-1) by have := (hzs.fr f0 (by simp)) (i) (by omega); rw [Nat.zero_add] at this; exact this]
      refine x_iast d_Mo_unfold_243 (by first | exact hM.1 | exact hM.s rfl | assumption) (vp_in_nI (show W.length < 20400 by omega) (by decide)) ?_
      rw [nI_clamp (by omega)]
      refine x_iinc (v := nI (W ++ [zs.getD i (-1)]).length) d_Mo_unfold_244 rfl (by rw [List.length_append]; exact nI_1 _) rfl ?_
      refine x_iinc (v := nI (i + 1)) d_Mo_unfold_247 rfl (nI_1 i) rfl ?_
      refine x_goto (tgt := 221) d_Mo_unfold_250 (by decide) ?_
      exact Wq.fg (ih (i + 1) (W ++ [zs.getD i (-1)]) _ (by omega) (by omega) (by rw [List.append_assoc, ← hW, drop_cons hil]; rfl) (f0.put (by simp)) (seg_app hoth (by omega))) ⟨rfl, rfl, rfl, rfl, rfl, rfl, rfl, rfl, rfl, rfl, trivial⟩
  have lb : ∀ (f : Nat) (t : Nat) (τ : Mem), t ≤ bs.length → bs.length < t + f → FrI [416] σ τ → seg τ 416 0 (zs.take a ++ (bs.take t).flatMap (uS (sgP pt) zs (fun j => nI (pv j)) p0 cnt)) → Wq G M_Mo_unfold (Em G D 0 0 Q) 0 0 123 [some (rf G 391), some (.int (nI a)), some (.int bi), some (.int ol), some (.int (nI e)), some (rf G cf), some (.int (nI beg)), some (.int (nI bs.length)), some (.int (nI (zs.take a ++ (bs.take t).flatMap (uS (sgP pt) zs (fun j => nI (pv j)) p0 cnt)).length)), some (.int (nI (beg + t))), none] [] [] Γ τ := by
    intro f
    induction f with
    | zero => intro t τ h1 h2; omega
    | succ f ih =>
    intro t τ hti hk f0 hoth
    have hM := hM0.fr f0
    refine x_iload d_Mo_unfold_123 rfl ?_
    refine x_iload d_Mo_unfold_125 rfl ?_
    refine x_iload d_Mo_unfold_127 rfl ?_
    refine x_iadd d_Mo_unfold_129 ?_
    first | rw [nI_add] | rw [nI_1] | skip
    refine x_icmp_ge (tgt := 217) d_Mo_unfold_130 (by decide) (fun c130 => ?_) (fun c130 => ?_)
    · have e0 : t = bs.length := by have := (nI_leI (by omega) (by omega)).mp c130; omega
      subst e0
      rw [List.take_length] at hoth ⊢
      refine x_iload d_Mo_unfold_217 rfl ?_
      refine x_istore d_Mo_unfold_219 rfl ?_
      exact Wq.fg (ld (zs.length + 1) e _ τ (by omega) (by omega) hL.symm f0 hoth) ⟨rfl, rfl, rfl, rfl, rfl, rfl, rfl, rfl, rfl, rfl, trivial⟩
    · have ht : t < bs.length := by
        have : ¬ beg + bs.length ≤ beg + t := fun z => c130 (nI_le z (by omega))
        omega
      obtain ⟨k, ek, hk4, hkv⟩ := hbk _ (getD_mem ht)
      have hpart : (zs.take a ++ (bs.take t).flatMap (uS (sgP pt) zs (fun j => nI (pv j)) p0 cnt)).length + ((uS (sgP pt) zs (fun j => nI (pv j)) p0 cnt) (nI k)).length ≤ L.length := by
        have e1 : bs = bs.take t ++ (nI k :: bs.drop (t + 1)) := by rw [← ek, ← drop_cons ht, List.take_append_drop]
        have e2 : bs.flatMap (uS (sgP pt) zs (fun j => nI (pv j)) p0 cnt) = (bs.take t).flatMap (uS (sgP pt) zs (fun j => nI (pv j)) p0 cnt) ++ ((uS (sgP pt) zs (fun j => nI (pv j)) p0 cnt) (nI k) ++ (bs.drop (t + 1)).flatMap (uS (sgP pt) zs (fun j => nI (pv j)) p0 cnt)) := by
          conv => lhs; rw [e1]
          rw [List.flatMap_append, List.flatMap_cons]
        rw [hL, List.length_append, List.length_append, e2]
        simp only [List.length_append]
        omega
      first | refine x_aload d_Mo_unfold_133 rfl ?_ | refine x_aloadN d_Mo_unfold_133 rfl ?_ | refine x_aloadE d_Mo_unfold_133 rfl ?_ | refine x_aloadO d_Mo_unfold_133 rfl ?_
      refine x_iload d_Mo_unfold_135 rfl ?_
      refine x_iald d_Mo_unfold_137 (by exact hsf) (vp_in_nI (show beg + t < Nf by omega) (by omega)) ?_
      rw [nI_clamp (by omega), hbs.fr f0 hcf t ht, ek]
      refine x_bipush (v := 100) d_Mo_unfold_138 (by decide) ?_
      refine x_icmp_lt (tgt := 161) d_Mo_unfold_140 (by decide) (fun c140 => ?_) (fun c140 => ?_)
      · have hk1 : k < 100 := (nI_ltI (by omega) (by decide)).mp (show nI k < nI 100 from c140)
        first | refine x_aload_n d_Mo_unfold_161 rfl rfl ?_ | refine x_aloadN_n d_Mo_unfold_161 rfl rfl ?_ | refine x_aloadE_n d_Mo_unfold_161 rfl rfl ?_ | refine x_aloadO_n d_Mo_unfold_161 rfl rfl ?_
        refine x_getR d_Mo_unfold_162 f_Mo_86 rfl (by first | exact hM.1 | exact hM.s rfl | assumption) (hM.r rfl) ?_
        first | refine x_aload d_Mo_unfold_165 rfl ?_ | refine x_aloadN d_Mo_unfold_165 rfl ?_ | refine x_aloadE d_Mo_unfold_165 rfl ?_ | refine x_aloadO d_Mo_unfold_165 rfl ?_
        refine x_iload d_Mo_unfold_167 rfl ?_
        refine x_iald d_Mo_unfold_169 (by exact hsf) (vp_in_nI (show beg + t < Nf by omega) (by omega)) ?_
        rw [nI_clamp (by omega), hbs.fr f0 hcf t ht, ek]
        refine x_iald d_Mo_unfold_170 (by first | exact hM.1 | exact hM.s rfl | assumption) (vp_in_nI (show k < 100 by omega) (by decide)) ?_
        rw [nI_clamp (by omega)]
        refine x_istore d_Mo_unfold_171 rfl ?_
        obtain ⟨j, hj, hjk, hjl, hu⟩ := uS_last (P := sgP pt) (zs := zs) (p0 := p0) hk1 cnt hpb (hkv hk1)
        obtain ⟨hfr, hto⟩ := hst j hj hjl
        rw [hjk] at hfr hto
        rw [hu] at hpart
        have hel1 : ends (sgP pt) zs p0 (j + 1) ≤ zs.length := hel _
        have hel0 : ends (sgP pt) zs p0 j ≤ ends (sgP pt) zs p0 (j + 1) := behind_ge
        have lc : ∀ (f i : Nat) (τ : Mem), ends (sgP pt) zs p0 j ≤ i → i ≤ ends (sgP pt) zs p0 (j + 1) → ends (sgP pt) zs p0 (j + 1) < i + f → FrI [416] σ τ → seg τ 416 0 ((zs.take a ++ (bs.take t).flatMap (uS (sgP pt) zs (fun j => nI (pv j)) p0 cnt)) ++ (zs.take i).drop (ends (sgP pt) zs p0 j)) → Wq G M_Mo_unfold (Em G D 0 0 Q) 0 0 173 [some (rf G 391), some (.int (nI a)), some (.int bi), some (.int ol), some (.int (nI e)), some (rf G cf), some (.int (nI beg)), some (.int (nI bs.length)), some (.int (nI ((zs.take a ++ (bs.take t).flatMap (uS (sgP pt) zs (fun j => nI (pv j)) p0 cnt)) ++ (zs.take i).drop (ends (sgP pt) zs p0 j)).length)), some (.int (nI (beg + t))), some (.int (nI i))] [] [] Γ τ := by
          intro f
          induction f with
          | zero => intro i τ h1 h2 h3; omega
          | succ f ih3 =>
          intro i τ hfi hit hk3 f0 hoth
          have hM := hM0.fr f0
          refine x_iload d_Mo_unfold_173 rfl ?_
          first | refine x_aload_n d_Mo_unfold_175 rfl rfl ?_ | refine x_aloadN_n d_Mo_unfold_175 rfl rfl ?_ | refine x_aloadE_n d_Mo_unfold_175 rfl rfl ?_ | refine x_aloadO_n d_Mo_unfold_175 rfl rfl ?_
          refine x_getR d_Mo_unfold_176 f_Mo_89 rfl (by first | exact hM.1 | exact hM.s rfl | assumption) (hM.r rfl) ?_
          first | refine x_aload d_Mo_unfold_179 rfl ?_ | refine x_aloadN d_Mo_unfold_179 rfl ?_ | refine x_aloadE d_Mo_unfold_179 rfl ?_ | refine x_aloadO d_Mo_unfold_179 rfl ?_
          refine x_iload d_Mo_unfold_181 rfl ?_
          refine x_iald d_Mo_unfold_183 (by exact hsf) (vp_in_nI (show beg + t < Nf by omega) (by omega)) ?_
          rw [nI_clamp (by omega), hbs.fr f0 hcf t ht, ek]
          refine x_iald d_Mo_unfold_184 (by first | exact hM.1 | exact hM.s rfl | assumption) (vp_in_nI (show k < 100 by omega) (by decide)) ?_
          rw [nI_clamp (by omega), f0.2 418 (by simp), hto]
          refine x_icmp_ge (tgt := 211) d_Mo_unfold_185 (by decide) (fun c185 => ?_) (fun c185 => ?_)
          · have e : i = ends (sgP pt) zs p0 (j + 1) := by have := (nI_leI (by omega) (by omega)).mp c185; omega
            subst e
            have f2 := f0
            have hoth2 := hoth
            rw [← hu] at hoth2 ⊢
            refine x_iinc (v := nI (beg + (t + 1))) d_Mo_unfold_211 rfl (nI_1 (beg + t)) rfl ?_
            refine x_goto (tgt := 123) d_Mo_unfold_214 (by decide) ?_
            exact Wq.fg (ih (t + 1) _ (by omega) (by omega) f2 (by rw [take_s ht, List.flatMap_append, ← List.append_assoc, ek, List.flatMap_singleton]; exact hoth2)) ⟨rfl, rfl, rfl, rfl, rfl, rfl, rfl, rfl, by rw [take_s ht, List.flatMap_append, ← List.append_assoc, ek, List.flatMap_singleton], rfl, trivial⟩
          · have hil : i < ends (sgP pt) zs p0 (j + 1) := Nat.not_le.mp fun z => c185 (nI_le z (by omega))
            have hll : ((zs.take a ++ (bs.take t).flatMap (uS (sgP pt) zs (fun j => nI (pv j)) p0 cnt)) ++ (zs.take i).drop (ends (sgP pt) zs p0 j)).length < L.length := by
              have h1 : ((zs.take a ++ (bs.take t).flatMap (uS (sgP pt) zs (fun j => nI (pv j)) p0 cnt)) ++ (zs.take (ends (sgP pt) zs p0 (j + 1))).drop (ends (sgP pt) zs p0 j)).length ≤ L.length := (by rw [List.length_append]; exact hpart)
              rw [List.length_append, List.length_drop, List.length_take] at h1 ⊢
              omega
            first | refine x_aload_n d_Mo_unfold_188 rfl rfl ?_ | refine x_aloadN_n d_Mo_unfold_188 rfl rfl ?_ | refine x_aloadE_n d_Mo_unfold_188 rfl rfl ?_ | refine x_aloadO_n d_Mo_unfold_188 rfl rfl ?_
            refine x_getR d_Mo_unfold_189 f_Mo_83 rfl (by first | exact hM.1 | exact hM.s rfl | assumption) (hM.r rfl) ?_
            refine x_iload d_Mo_unfold_192 rfl ?_
            first | refine x_aload_n d_Mo_unfold_194 rfl rfl ?_ | refine x_aloadN_n d_Mo_unfold_194 rfl rfl ?_ | refine x_aloadE_n d_Mo_unfold_194 rfl rfl ?_ | refine x_aloadO_n d_Mo_unfold_194 rfl rfl ?_
            refine x_getR d_Mo_unfold_195 f_Mo_80 rfl (by first | exact hM.1 | exact hM.s rfl | assumption) (hM.r rfl) ?_
            refine x_iload d_Mo_unfold_198 rfl ?_
            refine x_iald d_Mo_unfold_200 (by first | exact hM.1 | exact hM.s rfl | assumption) (vp_in_nI (show i < 20400 by omega) (by decide)) ?_
            rw [nI_clamp (by omega), show τ.1 415 (i) = zs.getD (i) (-1) by have := (hzs.fr f0 (by simp)) (i) (by omega); rw [Nat.zero_add] at this; exact this]
            refine x_iast d_Mo_unfold_201 (by first | exact hM.1 | exact hM.s rfl | assumption) (vp_in_nI (show ((zs.take a ++ (bs.take t).flatMap (uS (sgP pt) zs (fun j => nI (pv j)) p0 cnt)) ++ (zs.take i).drop (ends (sgP pt) zs p0 j)).length < 20400 by omega) (by decide)) ?_
            rw [nI_clamp (by omega)]
            refine x_iinc (v := nI ((zs.take a ++ (bs.take t).flatMap (uS (sgP pt) zs (fun j => nI (pv j)) p0 cnt)) ++ (zs.take (i + 1)).drop (ends (sgP pt) zs p0 j)).length) d_Mo_unfold_202 rfl (by rw [td_s (by omega) hfi, ← List.append_assoc, List.length_append (bs := [zs.getD i (-1)])]; exact nI_1 _) rfl ?_
            refine x_iinc (v := nI (i + 1)) d_Mo_unfold_205 rfl (nI_1 i) rfl ?_
            refine x_goto (tgt := 173) d_Mo_unfold_208 (by decide) ?_
            exact Wq.fg (ih3 (i + 1) _ (by omega) (by omega) (by omega) (f0.put (by simp)) (by
              rw [td_s (by omega) hfi, ← List.append_assoc]
              exact seg_app hoth (by omega))) ⟨rfl, rfl, rfl, rfl, rfl, rfl, rfl, rfl, rfl, rfl, rfl, trivial⟩
        exact Wq.fg (lc (zs.length + 1) (ends (sgP pt) zs p0 j) τ (Nat.le_refl _) (by omega) (by omega) f0 (by
          rw [List.drop_eq_nil_of_le (by rw [List.length_take]; omega), List.append_nil]; exact hoth)) ⟨rfl, rfl, rfl, rfl, rfl, rfl, rfl, rfl, by rw [List.drop_eq_nil_of_le (by rw [List.length_take]; omega), List.append_nil], rfl, by first | rfl | rw [f0.2 417 (by simp), hfr], trivial⟩
      · have hk1 : 100 ≤ k := Nat.not_lt.mp fun z => c140 (show nI k < nI 100 from nI_lt z (by decide))
        have hu := uS_cons (P := sgP pt) (zs := zs) (pv := fun j => nI (pv j)) (p0 := p0) (cnt := cnt) hk1 hk4
        have hpart1 := hpart
        rw [hu] at hpart1
        have hpart2 : (zs.take a ++ (bs.take t).flatMap (uS (sgP pt) zs (fun j => nI (pv j)) p0 cnt)).length + 1 ≤ L.length := hpart1
        first | refine x_aload_n d_Mo_unfold_143 rfl rfl ?_ | refine x_aloadN_n d_Mo_unfold_143 rfl rfl ?_ | refine x_aloadE_n d_Mo_unfold_143 rfl rfl ?_ | refine x_aloadO_n d_Mo_unfold_143 rfl rfl ?_
        refine x_getR d_Mo_unfold_144 f_Mo_83 rfl (by first | exact hM.1 | exact hM.s rfl | assumption) (hM.r rfl) ?_
        refine x_iload d_Mo_unfold_147 rfl ?_
        first | refine x_aload d_Mo_unfold_149 rfl ?_ | refine x_aloadN d_Mo_unfold_149 rfl ?_ | refine x_aloadE d_Mo_unfold_149 rfl ?_ | refine x_aloadO d_Mo_unfold_149 rfl ?_
        refine x_iload d_Mo_unfold_151 rfl ?_
        refine x_iald d_Mo_unfold_153 (by exact hsf) (vp_in_nI (show beg + t < Nf by omega) (by omega)) ?_
        rw [nI_clamp (by omega), hbs.fr f0 hcf t ht, ek]
        refine x_iast d_Mo_unfold_154 (by first | exact hM.1 | exact hM.s rfl | assumption) (vp_in_nI (show (zs.take a ++ (bs.take t).flatMap (uS (sgP pt) zs (fun j => nI (pv j)) p0 cnt)).length < 20400 by omega) (by decide)) ?_
        rw [nI_clamp (by omega)]
        refine x_iinc (v := nI (zs.take a ++ (bs.take t).flatMap (uS (sgP pt) zs (fun j => nI (pv j)) p0 cnt) ++ [nI k]).length) d_Mo_unfold_155 rfl (by rw [List.length_append (as := zs.take a ++ (bs.take t).flatMap (uS (sgP pt) zs (fun j => nI (pv j)) p0 cnt)) (bs := [nI k])]; exact nI_1 _) rfl ?_
        refine x_goto (tgt := 211) d_Mo_unfold_158 (by decide) ?_
        have f2 := f0.put (a := 416) (j := (zs.take a ++ (bs.take t).flatMap (uS (sgP pt) zs (fun j => nI (pv j)) p0 cnt)).length) (v := nI k) (by simp)
        have hoth2 := seg_app (v := nI k) (x := (zs.take a ++ (bs.take t).flatMap (uS (sgP pt) zs (fun j => nI (pv j)) p0 cnt)).length) hoth (by omega)
        have hu2 : zs.take a ++ (bs.take t).flatMap (uS (sgP pt) zs (fun j => nI (pv j)) p0 cnt) ++ [nI k] = zs.take a ++ (bs.take t).flatMap (uS (sgP pt) zs (fun j => nI (pv j)) p0 cnt) ++ (uS (sgP pt) zs (fun j => nI (pv j)) p0 cnt) (nI k) := by rw [hu]
        rw [hu2] at hoth2 ⊢
        refine x_iinc (v := nI (beg + (t + 1))) d_Mo_unfold_211 rfl (nI_1 (beg + t)) rfl ?_
        refine x_goto (tgt := 123) d_Mo_unfold_214 (by decide) ?_
        exact Wq.fg (ih (t + 1) _ (by omega) (by omega) f2 (by rw [take_s ht, List.flatMap_append, ← List.append_assoc, ek, List.flatMap_singleton]; exact hoth2)) ⟨rfl, rfl, rfl, rfl, rfl, rfl, rfl, rfl, by rw [take_s ht, List.flatMap_append, ← List.append_assoc, ek, List.flatMap_singleton], rfl, trivial⟩
  have la : ∀ (f : Nat) (i : Nat) (τ : Mem), i ≤ a → a < i + f → FrI [416] σ τ → seg τ 416 0 (zs.take i) → Wq G M_Mo_unfold (Em G D 0 0 Q) 0 0 90 [some (rf G 391), some (.int (nI a)), some (.int bi), some (.int ol), some (.int (nI e)), some (rf G cf), some (.int (nI beg)), some (.int (nI bs.length)), some (.int (nI i)), none, none] [] [] Γ τ := by
    intro f
    induction f with
    | zero => intro i τ h1 h2; omega
    | succ f ih =>
    intro i τ hi hk f0 hoth
    have hM := hM0.fr f0
    refine x_iload d_Mo_unfold_90 rfl ?_
    refine x_iload_n d_Mo_unfold_92 rfl rfl ?_
    refine x_icmp_ge (tgt := 116) d_Mo_unfold_93 (by decide) (fun c93 => ?_) (fun c93 => ?_)
    · have e0 : i = a := by have := (nI_leI (by omega) (by omega)).mp c93; omega
      subst e0
      refine x_iload_n d_Mo_unfold_116 rfl rfl ?_
      refine x_istore d_Mo_unfold_117 rfl ?_
      refine x_iload d_Mo_unfold_119 rfl ?_
      refine x_istore d_Mo_unfold_121 rfl ?_
      exact Wq.fg (lb (bs.length + 1) 0 τ (by omega) (by omega) f0 (by rw [List.take_zero, List.flatMap_nil, List.append_nil]; exact hoth)) ⟨rfl, rfl, rfl, rfl, rfl, rfl, rfl, rfl, by rw [List.take_zero, List.flatMap_nil, List.append_nil, List.length_take, Nat.min_eq_left (by omega)], rfl, trivial⟩
    · have hil : i < a := Nat.not_le.mp fun z => c93 (nI_le z (by omega))
      first | refine x_aload_n d_Mo_unfold_96 rfl rfl ?_ | refine x_aloadN_n d_Mo_unfold_96 rfl rfl ?_ | refine x_aloadE_n d_Mo_unfold_96 rfl rfl ?_ | refine x_aloadO_n d_Mo_unfold_96 rfl rfl ?_
      refine x_getR d_Mo_unfold_97 f_Mo_83 rfl (by first | exact hM.1 | exact hM.s rfl | assumption) (hM.r rfl) ?_
      refine x_iload d_Mo_unfold_100 rfl ?_
      first | refine x_aload_n d_Mo_unfold_102 rfl rfl ?_ | refine x_aloadN_n d_Mo_unfold_102 rfl rfl ?_ | refine x_aloadE_n d_Mo_unfold_102 rfl rfl ?_ | refine x_aloadO_n d_Mo_unfold_102 rfl rfl ?_
      refine x_getR d_Mo_unfold_103 f_Mo_80 rfl (by first | exact hM.1 | exact hM.s rfl | assumption) (hM.r rfl) ?_
      refine x_iload d_Mo_unfold_106 rfl ?_
      refine x_iald d_Mo_unfold_108 (by first | exact hM.1 | exact hM.s rfl | assumption) (vp_in_nI (show i < 20400 by omega) (by decide)) ?_
      rw [nI_clamp (by omega), show τ.1 415 (i) = zs.getD (i) (-1) by have := (hzs.fr f0 (by simp)) (i) (by omega); rw [Nat.zero_add] at this; exact this]
      refine x_iast d_Mo_unfold_109 (by first | exact hM.1 | exact hM.s rfl | assumption) (vp_in_nI (show i < 20400 by omega) (by decide)) ?_
      rw [nI_clamp (by omega)]
      refine x_iinc (v := nI (i + 1)) d_Mo_unfold_110 rfl (nI_1 i) rfl ?_
      refine x_goto (tgt := 90) d_Mo_unfold_113 (by decide) ?_
      exact Wq.fg (ih (i + 1) _ (by omega) (by omega) (f0.put (by simp)) (by
        rw [take_s (by omega)]
        exact seg_app hoth (by rw [List.length_take]; omega))) ⟨rfl, rfl, rfl, rfl, rfl, rfl, rfl, rfl, rfl, trivial⟩

  refine x_iconst (v := 0) d_Mo_unfold_87 (by decide) ?_
  refine x_istore d_Mo_unfold_88 rfl ?_
  exact Wq.fg (la (a + 1) 0 σ (by omega) (by omega) FrI.rf seg.nil) ⟨rfl, rfl, rfl, rfl, rfl, rfl, rfl, rfl, by rw [nI_0], trivial⟩
