/-! SuperDriverModel: the tree's arrays beside the class's tree -/
def RN (σ : Mem) (T : TS) (n : Nat) : Prop := σ.1 400 n = kd T n ∧ σ.1 401 n = oI (lkn T n 3) ∧ (σ.1 403 n = nI (tmn T n).length ∧ seg σ 402 (40 * n) (tmn T n)) ∧ (kd T n ≠ 0 → kd T n ≠ 2 → σ.1 404 n = dt T n) ∧ (kd T n = 8 → σ.1 406 n = 0)
def RK (σ : Mem) (T : TS) (k : Nat) : Prop := ∀ cl, cl < 6 → (tD T k).1 11 = nI cl → σ.1 408 k = nI (100 + cl) ∧ (0 < qK cl → σ.1 409 k = (tD T k).1 12)
def RC (σ : Mem) (T : TS) (n : Nat) : Prop := kd T n = 2 ∨ kd T n = 3 ∨ kd T n = 4 ∨ kd T n = 7 → ∀ b c, Ch T n b c → σ.1 406 n = nI c ∧ (0 < c → σ.1 405 n = nI b) ∧ (kd T n = 7 → 1 < c → σ.1 407 n = (tD T n).1 13) ∧ (kd T n = 4 → ∀ i, i < c → RK σ T (b + i))
def Rt (σ : Mem) (T : TS) (h : Option Nat) : Prop := σ.1 391 12 = 0 ∧ σ.1 391 13 = nI (tN T) ∧ σ.1 391 14 = nI (tV T) ∧ ∀ n, n < tN T → RN σ T n ∧ (h ≠ some n → RC σ T n)
/-- too great: what is left to say -/
def gw (σ : Mem) : Prop := ∃ N, N ≤ 48 ∧ σ.1 391 13 = nI N ∧ ∀ n, n < N → ∃ zs : List Int32, zs.length ≤ 40 ∧ σ.1 403 n = nI zs.length ∧ seg σ 402 (40 * n) zs ∧ (σ.1 400 n = 3 ∨ σ.1 400 n = 4 → isC (zs.getD 0 (-1)) = true)
def gW (σ : Mem) : Prop := σ.1 391 12 = 1 ∧ gw σ
theorem Ch_u {T : TS} {n b c b' c' : Nat} (h : Ch T n b c) (h' : Ch T n b' c') : c = c' ∧ (0 < c → b = b') := by
  have e4 := h.2.2.1.symm.trans h'.2.2.1
  have e5 := h.2.2.2.1.symm.trans h'.2.2.2.1
  by_cases z : c = 0
  · rw [if_pos z] at e4
    by_cases z' : c' = 0
    · exact ⟨by omega, fun y => by omega⟩
    · rw [if_neg z'] at e4; cases e4
  · rw [if_neg z] at e4 e5
    by_cases z' : c' = 0
    · rw [if_pos z'] at e4; cases e4
    · rw [if_neg z'] at e4 e5
      have q4 := Option.some.inj e4
      have q5 := Option.some.inj e5
      exact ⟨by omega, fun _ => q4⟩
theorem Ch.tr {T T' : TS} {m b c : Nat} (hc : Ch T m b c) (h4 : lkn T' m 4 = lkn T m 4) (h5 : lkn T' m 5 = lkn T m 5) (hk : ∀ k, k < tN T → lkn T k 3 = some m → lkn T' k 3 = lkn T k 3 ∧ lkn T' k 6 = lkn T k 6) (hN : tN T ≤ tN T') : Ch T' m b c := by
  have hb : ∀ i, i < c → b + i < tN T := fun i hi => by have := hc.2.1; omega
  have hkk : ∀ i, i < c → _ := fun i hi => hk (b + i) (hb i hi) (hc.2.2.2.2 i hi).1
  refine ⟨hc.1, by have := hc.2.1; omega, by rw [h4]; exact hc.2.2.1, by rw [h5]; exact hc.2.2.2.1, fun i hi => ?_⟩
  rw [(hkk i hi).1, (hkk i hi).2]
  exact hc.2.2.2.2 i hi
theorem RC.tr {P : Int32 → Int32} {σ σ' : Mem} {T T' : TS} {m : Nat} (h : RC σ T m) (hC : CH P T m) (hch : ∀ b c, Ch T m b c → Ch T' m b c) (h7 : kd T' m = kd T m) (h13 : (tD T' m).1 13 = (tD T m).1 13) (e5 : σ'.1 405 m = σ.1 405 m) (e6 : σ'.1 406 m = σ.1 406 m) (e7 : σ'.1 407 m = σ.1 407 m) (hk : ∀ k, k < tN T → lkn T k 3 = some m → σ'.1 408 k = σ.1 408 k ∧ σ'.1 409 k = σ.1 409 k ∧ (tD T' k).1 11 = (tD T k).1 11 ∧ (tD T' k).1 12 = (tD T k).1 12) : RC σ' T' m := by
  intro hx b c hbc
  rw [h7] at hx
  obtain ⟨b0, c0, h0, _⟩ := hC hx
  obtain ⟨u1, u2⟩ := Ch_u hbc (hch b0 c0 h0)
  obtain ⟨r1, r2, r3, r4⟩ := h hx b0 c0 h0
  refine ⟨by rw [e6, r1, u1], fun hc => by rw [e5, r2 (by omega), u2 hc], fun z hc => by rw [e7, h13]; exact r3 (by rw [← h7]; exact z) (by omega), fun z i hi => ?_⟩
  rw [h7] at z
  have hb := u2 (by omega)
  subst hb
  have hk' := hk (b + i) (by have := h0.2.1; omega) (h0.2.2.2.2 i (by omega)).1
  have := r4 z i (by omega)
  unfold RK at this ⊢
  rw [hk'.1, hk'.2.1, hk'.2.2.1, hk'.2.2.2]
  exact this
theorem Rt.gw {pt : Nat → Int32} {σ : Mem} {T : TS} {h h' : Option Nat} (hR : Rt σ T h) (hW : WF pt T h') : gw σ := by
  refine ⟨tN T, hW.1.1, hR.2.1, fun n hn => ⟨tmn T n, (hW.1.2.2 n hn).1, (hR.2.2.2 n hn).1.2.2.1.1, (hR.2.2.2 n hn).1.2.2.1.2, fun z => ?_⟩⟩
  rw [(hR.2.2.2 n hn).1.1] at z
  exact (hW.2.2 n hn).1.2.2.2.2.2.2.1 z
theorem gw.cg {σ τ : Mem} (h : gw σ) (h0 : τ.1 400 = σ.1 400) (h2 : τ.1 402 = σ.1 402) (h3 : τ.1 403 = σ.1 403) (hn : τ.1 391 13 = σ.1 391 13) : gw τ := by
  obtain ⟨N, h1, h2', h3'⟩ := h
  refine ⟨N, h1, by rw [hn]; exact h2', fun n hn => ?_⟩
  obtain ⟨zs, a, b, c, d⟩ := h3' n hn
  exact ⟨zs, a, by rw [h3]; exact b, fun i hi => by rw [h2]; exact c i hi, by rw [h0]; exact d⟩
theorem Rt.gW {pt : Nat → Int32} {σ : Mem} {T : TS} {h h' : Option Nat} (hR : Rt σ T h) (hW : WF pt T h') : gW (wI σ 391 12 1) := ⟨wI_s, (hR.gw hW).cg (wI_o (by decide)) (wI_o (by decide)) (wI_o (by decide)) (wI_j (by decide))⟩
theorem Rt.cg {σ τ : Mem} {T : TS} {h : Option Nat} (hR : Rt σ T h) (ha : ∀ a, 400 ≤ a → a ≤ 409 → τ.1 a = σ.1 a) (h12 : τ.1 391 12 = σ.1 391 12) (h13 : τ.1 391 13 = σ.1 391 13) (h14 : τ.1 391 14 = σ.1 391 14) : Rt τ T h := by
  refine ⟨by rw [h12]; exact hR.1, by rw [h13]; exact hR.2.1, by rw [h14]; exact hR.2.2.1, fun n hn => ?_⟩
  obtain ⟨⟨a1, a2, a3, a4, a5⟩, a7⟩ := hR.2.2.2 n hn
  refine ⟨⟨by rw [ha 400 (by omega) (by omega)]; exact a1, by rw [ha 401 (by omega) (by omega)]; exact a2, ⟨by rw [ha 403 (by omega) (by omega)]; exact a3.1, fun i hi => by rw [ha 402 (by omega) (by omega)]; exact a3.2 i hi⟩, by rw [ha 404 (by omega) (by omega)]; exact a4, by rw [ha 406 (by omega) (by omega)]; exact a5⟩, fun z => ?_⟩
  have := a7 z
  unfold RC RK at this ⊢
  rw [ha 405 (by omega) (by omega), ha 406 (by omega) (by omega), ha 407 (by omega) (by omega), ha 408 (by omega) (by omega), ha 409 (by omega) (by omega)]
  exact this
theorem Rt.fr {σ τ : Mem} {T : TS} {h : Option Nat} {S : List Nat} (hR : Rt σ T h) (hf : FrI S σ τ) (hs : ∀ a ∈ S, a < 391 ∨ 409 < a) : Rt τ T h := by
  have h391 : τ.1 391 = σ.1 391 := hf.2 391 (fun z => by have := hs _ z; omega)
  exact hR.cg (fun a h1 h2 => hf.2 a (fun z => by have := hs _ z; omega)) (by rw [h391]) (by rw [h391]) (by rw [h391])
theorem Rt.hole {σ : Mem} {T : TS} {n : Nat} (hR : Rt σ T none) : Rt σ T (some n) := ⟨hR.1, hR.2.1, hR.2.2.1, fun k hk => ⟨(hR.2.2.2 k hk).1, fun _ => (hR.2.2.2 k hk).2 (fun z => by cases z)⟩⟩
theorem Rt.close {σ : Mem} {T : TS} {n : Nat} (hR : Rt σ T (some n)) (hC : RC σ T n) : Rt σ T none := ⟨hR.1, hR.2.1, hR.2.2.1, fun k hk => ⟨(hR.2.2.2 k hk).1, fun _ => by
  by_cases e : k = n
  · rw [e]; exact hC
  · exact (hR.2.2.2 k hk).2 (fun z => e (Option.some.inj z).symm)⟩⟩
theorem oI_s {n : Nat} : oI (some n) = nI n := rfl
/-- a node is added on both sides -/
theorem Rt.add {pt : Nat → Int32} {σ σ' : Mem} {T : TS} {n : Nat} {l : List Int32} {tl : Bool} (hR : Rt σ T (some n)) (hW : WF pt T (some n)) (hn : n < tN T) (hg : tG (tAdd T (some n) l tl).1 = false) (hb : ∃ b c, Ch T n b c) (hF : addF σ σ' (tN T) (nI n) l) : Rt σ' (tAdd T (some n) l tl).1 (some n) := by
  obtain ⟨a1, a2, a3, a4, a5, a6, a7⟩ := tAdd_all hW.1 hn hg
  obtain ⟨b0, c0, hC⟩ := hb
  obtain ⟨f0, f1, f2, f3, f4, f5, f6, f7, f8, f9, f10⟩ := hF
  generalize (tAdd T (some n) l tl).1 = T' at *
  have ht : ∀ k, k < tN T → tmn T' k = tmn T k := fun k hk => by unfold tmn ntm; rw [(a7 k hk).2.1]
  have hkd : ∀ k, k < tN T → kd T' k = kd T k := fun k hk => by unfold kd; rw [(a7 k hk).1]
  refine ⟨f2, by rw [f3, a1], by rw [f1 14 (by decide) (by decide), a2]; exact hR.2.2.1, fun k hk => ?_⟩
  rw [a1] at hk
  by_cases e : k = tN T
  · subst e
    refine ⟨⟨?_, ?_, ⟨?_, ?_⟩, ?_, ?_⟩, fun _ => ?_⟩
    · rw [f4, if_pos rfl]; unfold kd; rw [a6]; rfl
    · rw [f5, if_pos rfl]; unfold lkn; rw [a6]; rfl
    · rw [f6, if_pos rfl]; unfold tmn; rw [a6]; rfl
    · have : tmn T' (tN T) = l := by unfold tmn; rw [a6]; rfl
      rw [this]; exact f9
    · intro _ _; rw [f7, if_pos rfl]; unfold dt; rw [a6]; rfl
    · intro _; rw [f8, if_pos rfl]
    · intro hx
      have : kd T' (tN T) = 8 := by unfold kd; rw [a6]; rfl
      rw [this] at hx
      exact absurd hx (by decide)
  · have hkN : k < tN T := by omega
    obtain ⟨⟨r1, r2, r3, r4, r5⟩, r7⟩ := hR.2.2.2 k hkN
    have ak := a7 k hkN
    have hl3 : lkn T' k 3 = lkn T k 3 := ak.2.2.1 3 (by decide) (by decide) (by decide)
    refine ⟨⟨?_, ?_, ⟨?_, ?_⟩, ?_, ?_⟩, fun hh => ?_⟩
    · rw [f4, if_neg e, hkd k hkN]; exact r1
    · rw [f5, if_neg e, hl3]; exact r2
    · rw [f6, if_neg e, ht k hkN]; exact r3.1
    · rw [ht k hkN]
      have hlen := (hW.1.2.2 k hkN).1
      have hlen' : (tmn T k).length ≤ 40 := hlen
      intro i hi
      rw [f10 _ (by omega)]
      exact r3.2 i hi
    · rw [f7, if_neg e, hkd k hkN]; unfold dt at r4 ⊢; rw [ak.1]; exact r4
    · rw [f8, if_neg e, hkd k hkN]; exact r5
    · have hkn : k ≠ n := fun z => hh (by rw [z])
      refine (r7 hh).tr ((hW.2.2 k hkN).2.2 hh) (fun b c hbc => ?_) (hkd k hkN) (by rw [ak.1]) (by rw [f0.2 405 (by simp)]) (by rw [f8, if_neg e]) (by rw [f0.2 407 (by simp)]) (fun j hj _ => ⟨by rw [f0.2 408 (by simp)], by rw [f0.2 409 (by simp)], by rw [(a7 j hj).1], by rw [(a7 j hj).1]⟩)
      refine hbc.tr (by rw [ak.2.2.2.1, if_neg (fun y => hkn y.1)]) (by rw [ak.2.2.2.2.1, if_neg hkn]) (fun j hj h3 => ⟨(a7 j hj).2.2.1 3 (by decide) (by decide) (by decide), ?_⟩) (by omega)
      rw [(a7 j hj).2.2.2.2.2, if_neg]
      intro z
      rw [hC.2.2.2.1] at z
      by_cases y : c0 = 0
      · rw [if_pos y] at z; cases z
      · rw [if_neg y] at z
        have zz := Option.some.inj z
        have := (hC.2.2.2.2 (c0 - 1) (by omega)).1
        rw [show b0 + (c0 - 1) = j by omega, h3] at this
        exact hkn (Option.some.inj this)
/-- a node becomes another -/
theorem Rt.set {pt : Nat → Int32} {σ σ' : Mem} {T : TS} {n : Nat} {x : ND} (hR : Rt σ T (some n)) (hW : WF pt T (some n)) (hn : n < tN T) (ht : ntm x = tmn T n) (h3 : x.2.1 3 = lkn T n 3) (h6 : x.2.1 6 = lkn T n 6) (h11 : x.1 11 = (tD T n).1 11) (h12 : x.1 12 = (tD T n).1 12)
    (hf : FrI [391, 400, 404, 405, 406, 407] σ σ') (h391 : ∀ j, j = 12 ∨ j = 13 ∨ j = 14 → σ'.1 391 j = σ.1 391 j) (hk : ∀ j, j ≠ n → σ'.1 400 j = σ.1 400 j ∧ σ'.1 404 j = σ.1 404 j ∧ σ'.1 405 j = σ.1 405 j ∧ σ'.1 406 j = σ.1 406 j ∧ σ'.1 407 j = σ.1 407 j) (h0 : σ'.1 400 n = x.1 7) (h4 : x.1 7 ≠ 0 → x.1 7 ≠ 2 → σ'.1 404 n = x.1 8) (h8 : x.1 7 ≠ 8) : Rt σ' (tUp T n x) (some n) := by
  have et : ∀ k, tmn (tUp T n x) k = tmn T k := fun k => by
    by_cases z : k = n
    · subst z; unfold tmn at ht ⊢; rw [tD_up]; exact ht
    · unfold tmn; rw [tD_ne z]
  have e3 : ∀ k, lkn (tUp T n x) k 3 = lkn T k 3 := fun k => by
    unfold lkn
    by_cases z : k = n
    · subst z; rw [tD_up]; exact h3
    · rw [tD_ne z]
  have e6 : ∀ k, lkn (tUp T n x) k 6 = lkn T k 6 := fun k => by
    unfold lkn
    by_cases z : k = n
    · subst z; rw [tD_up]; exact h6
    · rw [tD_ne z]
  refine ⟨by rw [h391 12 (by simp)]; exact hR.1, by rw [h391 13 (by simp)]; exact hR.2.1, by rw [h391 14 (by simp)]; exact hR.2.2.1, fun k hk' => ?_⟩
  have hkN : k < tN T := hk'
  obtain ⟨⟨r1, r2, r3, r4, r5⟩, r7⟩ := hR.2.2.2 k hkN
  by_cases e : k = n
  · subst e
    have ekd : kd (tUp T k x) k = x.1 7 := by unfold kd; rw [tD_up]
    refine ⟨⟨by rw [ekd]; exact h0, by rw [e3, hf.2 401 (by simp)]; exact r2, ⟨by rw [et, hf.2 403 (by simp)]; exact r3.1, by rw [et]; exact r3.2.fr hf (by simp)⟩, ?_, fun z => absurd (ekd.symm.trans z) h8⟩, fun z => absurd rfl z⟩
    intro z1 z2
    rw [ekd] at z1 z2
    rw [h4 z1 z2]
    unfold dt; rw [tD_up]
  · have ekd : kd (tUp T n x) k = kd T k := by unfold kd; rw [tD_ne e]
    have edt : dt (tUp T n x) k = dt T k := by unfold dt; rw [tD_ne e]
    obtain ⟨q0, q4, q5, q6, q7⟩ := hk k e
    refine ⟨⟨by rw [ekd, q0]; exact r1, by rw [e3, hf.2 401 (by simp)]; exact r2, ⟨by rw [et, hf.2 403 (by simp)]; exact r3.1, by rw [et]; exact r3.2.fr hf (by simp)⟩, by rw [ekd, edt, q4]; exact r4, by rw [ekd, q6]; exact r5⟩, fun hh => ?_⟩
    refine (r7 hh).tr ((hW.2.2 k hkN).2.2 hh) (fun b c hbc => hbc.tr (by unfold lkn; rw [tD_ne e]) (by unfold lkn; rw [tD_ne e]) (fun j hj _ => ⟨e3 j, e6 j⟩) (Nat.le_refl _)) ekd (by rw [tD_ne e]) q5 q6 q7 (fun j hj _ => by
      have q11 : ∀ i, i = 11 ∨ i = 12 → (tD (tUp T n x) j).1 i = (tD T j).1 i := fun i hi => by
        by_cases z : j = n
        · subst z; rw [tD_up]; rcases hi with hi | hi <;> (rw [hi]; assumption)
        · rw [tD_ne z]
      exact ⟨by rw [hf.2 408 (by simp)], by rw [hf.2 409 (by simp)], q11 11 (Or.inl rfl), q11 12 (Or.inr rfl)⟩)
theorem Rt.twT {pt : Nat → Int32} {cs : Nat → Bool} {σ : Mem} {T : TS} {h h' : Option Nat} {a b : Nat} (hR : Rt σ T h) (hW : WF pt T h') (hS : SW pt cs) (hp : ∀ f, f < 8 → σ.1 393 f = pt (200 + f)) (ha : a < tN T) (hb : b < tN T) : twT σ (nP (sgP pt)) a b (tmn T a) (tmn T b) := by
  have hN := hW.1.1
  have w1 := (hW.2.2 a ha).1.1
  have w2 := (hW.2.2 b hb).1.1
  exact ⟨by omega, by omega, ⟨(hW.1.2.2 a ha).1, (hW.1.2.2 b hb).1⟩, (hR.2.2.2 a ha).1.2.2.1.2, (hR.2.2.2 b hb).1.2.2.1.2, w1.1, w2.1, pAll_of hS hp w1.2 gA_k, pAll_of hS hp w2.2 gA_k⟩
theorem renI_sy {zs ws : List Int32} : renI zs ws = renI ws zs := by
  unfold renI
  rw [← Bool.decide_and, ← Bool.decide_and]
  have key : ∀ (zs ws : List Int32) i, renOK zs ws i = renOK ws zs i := fun zs ws i => by
    unfold renOK
    rw [Bool.and_comm (isV (zs.getD i (-1)))]
    split
    · exact decide_eq_decide.mpr eq_comm
    · exact decide_eq_decide.mpr eq_comm
  refine decide_eq_decide.mpr ⟨fun ⟨h1, h2⟩ => ⟨h1.symm, fun i hi => by rw [key]; exact h2 i (by omega)⟩, fun ⟨h1, h2⟩ => ⟨h1.symm, fun i hi => by rw [key]; exact h2 i (by omega)⟩⟩
set_option maxRecDepth 10000 in
set_option maxHeartbeats 1000000 in
theorem c_Mo_isRenaming {G : Ctx} {d : Nat} {Γ : List Sh} {σ : Mem} {Q : Option Value → List Sh → Mem → Prop} {P : Int32 → Int32} {a b : Nat} {zs ws : List Int32} (hM : MoS Γ σ) (hT : twT σ (nP P) a b zs ws) (hsa : σ.1 403 a = nI zs.length) (hsb : σ.1 403 b = nI ws.length) (hQ : ∀ τ, FrI [419, 420] σ τ → (renI zs ws = true → ∀ v, v < 100 → τ.1 419 v = mpI zs ws zs.length v) → Q (some (.int (bI (renI zs ws)))) Γ τ) : Ct G M_Mo_isRenaming (d + 1) 0 0 [rf G 391, .int (nI a), .int (nI b)] Γ σ Q := by
  obtain ⟨t1, t2, ⟨t3, t3b⟩, t4, t5, t6, t7, t8, t9⟩ := id hT
  refine Ct.of (lv := [some (rf G 391), some (.int (nI a)), some (.int (nI b))]) (ll := []) rfl rfl (EN.cat (n := 0) ⟨rfl, rfl, rfl, trivial⟩ (Nat.le_of_ble_eq_true rfl)) ?_
  first | refine x_aload_n d_Mo_isRenaming_0 rfl rfl ?_ | refine x_aloadN_n d_Mo_isRenaming_0 rfl rfl ?_ | refine x_aloadE_n d_Mo_isRenaming_0 rfl rfl ?_ | refine x_aloadO_n d_Mo_isRenaming_0 rfl rfl ?_
  first | refine x_aload_n d_Mo_isRenaming_1 rfl rfl ?_ | refine x_aloadN_n d_Mo_isRenaming_1 rfl rfl ?_ | refine x_aloadE_n d_Mo_isRenaming_1 rfl rfl ?_ | refine x_aloadO_n d_Mo_isRenaming_1 rfl rfl ?_
  refine x_getR d_Mo_isRenaming_2 f_Mo_41 rfl (by first | exact hM.1 | exact hM.s rfl | assumption) (hM.r rfl) ?_
  refine x_bipush (v := 40) d_Mo_isRenaming_5 (by decide) ?_
  refine x_iload_n d_Mo_isRenaming_7 rfl rfl ?_
  refine x_imul d_Mo_isRenaming_8 ?_
  first | rw [mul40] | rw [mul24] | rw [mul100] | rw [mul7] | skip
  first | refine x_aload_n d_Mo_isRenaming_9 rfl rfl ?_ | refine x_aloadN_n d_Mo_isRenaming_9 rfl rfl ?_ | refine x_aloadE_n d_Mo_isRenaming_9 rfl rfl ?_ | refine x_aloadO_n d_Mo_isRenaming_9 rfl rfl ?_
  refine x_getR d_Mo_isRenaming_10 f_Mo_44 rfl (by first | exact hM.1 | exact hM.s rfl | assumption) (hM.r rfl) ?_
  refine x_iload_n d_Mo_isRenaming_13 rfl rfl ?_
  refine x_iald d_Mo_isRenaming_14 (by first | exact hM.1 | exact hM.s rfl | assumption) (vp_in_nI t1 (by decide)) ?_
  rw [nI_clamp (by omega), hsa]
  first | refine x_aload_n d_Mo_isRenaming_15 rfl rfl ?_ | refine x_aloadN_n d_Mo_isRenaming_15 rfl rfl ?_ | refine x_aloadE_n d_Mo_isRenaming_15 rfl rfl ?_ | refine x_aloadO_n d_Mo_isRenaming_15 rfl rfl ?_
  refine x_getR d_Mo_isRenaming_16 f_Mo_41 rfl (by first | exact hM.1 | exact hM.s rfl | assumption) (hM.r rfl) ?_
  refine x_bipush (v := 40) d_Mo_isRenaming_19 (by decide) ?_
  refine x_iload_n d_Mo_isRenaming_21 rfl rfl ?_
  refine x_imul d_Mo_isRenaming_22 ?_
  first | rw [mul40] | rw [mul24] | rw [mul100] | rw [mul7] | skip
  first | refine x_aload_n d_Mo_isRenaming_23 rfl rfl ?_ | refine x_aloadN_n d_Mo_isRenaming_23 rfl rfl ?_ | refine x_aloadE_n d_Mo_isRenaming_23 rfl rfl ?_ | refine x_aloadO_n d_Mo_isRenaming_23 rfl rfl ?_
  refine x_getR d_Mo_isRenaming_24 f_Mo_44 rfl (by first | exact hM.1 | exact hM.s rfl | assumption) (hM.r rfl) ?_
  refine x_iload_n d_Mo_isRenaming_27 rfl rfl ?_
  refine x_iald d_Mo_isRenaming_28 (by first | exact hM.1 | exact hM.s rfl | assumption) (vp_in_nI t2 (by decide)) ?_
  rw [nI_clamp (by omega), hsb]
  refine x_callV6 d_Mo_isRenaming_29 k_Mo_renames l_Mo_186 v_Mo_renames rfl s_Mo_renames (by first | exact hM.1 | exact hM.s rfl | assumption) RoomE.m (Nat.le_of_ble_eq_true rfl) (c_Mo_renames hM (hM.s rfl) (hM.s rfl) (by decide) (by decide) (by omega) (by omega) (by decide) (by decide) (by omega) (by omega) t4 t5 (fun s hs => by obtain ⟨k, e, ok, _⟩ := t8 s hs; exact ⟨k, ok.le, e, trivial⟩) (fun s hs => by obtain ⟨k, e, ok, _⟩ := t9 s hs; exact ⟨k, ok.le, e, trivial⟩) (fun τ1 f1 m1 => ?_))
  exact x_ireturn d_Mo_isRenaming_32 rfl (by cases renI zs ws <;> rfl) (hQ τ1 f1 m1)
