/-! both sides together; cells are only added -/
def Gle (Γ Γ' : List Sh) : Prop := ∀ (k : Nat) (s : Sh), Γ[k]? = some s → Γ'[k]? = some s
theorem Gle.rf {Γ : List Sh} : Gle Γ Γ := fun _ _ h => h
theorem Gle.tr {Γ Γ1 Γ2 : List Sh} (h : Gle Γ Γ1) (h2 : Gle Γ1 Γ2) : Gle Γ Γ2 := fun k s z => h2 k s (h k s z)
theorem gLt {Γ : List Sh} {k : Nat} {s : Sh} (h : Γ[k]? = some s) : k < Γ.length := by
  rcases Nat.lt_or_ge k Γ.length with z | z
  · exact z
  · rw [List.getElem?_eq_none z] at h; cases h
theorem Gle.app {Γ l : List Sh} : Gle Γ (Γ ++ l) := fun k s h => by
  rw [List.getElem?_append_left (gLt h)]; exact h
theorem isRow.up {Γ Γ' : List Sh} {σ : Mem} {r n : Nat} {ys : List Int32} (h : isRow Γ σ r n ys) (g : Gle Γ Γ') : isRow Γ' σ r n ys := ⟨g _ _ h.1, g _ _ h.2.1, h.2.2⟩
theorem isSg.up {Γ Γ' : List Sh} {σ : Mem} {q : Nat} {pt : Nat → Int32} {cs : Nat → Bool} (h : isSg Γ σ q pt cs) (g : Gle Γ Γ') : isSg Γ' σ q pt cs := ⟨⟨g _ _ h.1.1, g _ _ h.1.2.1, g _ _ h.1.2.2.1, g _ _ h.1.2.2.2.1, g _ _ h.1.2.2.2.2.1, g _ _ h.1.2.2.2.2.2⟩, h.2⟩
theorem isSub.up {Γ Γ' : List Sh} {σ : Mem} {c k : Nat} {β : Nat → Option (Nat × Nat × Nat)} (h : isSub Γ σ c k β) (g : Gle Γ Γ') : isSub Γ' σ c k β := ⟨⟨g _ _ h.1.1, g _ _ h.1.2.1, g _ _ h.1.2.2.1, g _ _ h.1.2.2.2.1, g _ _ h.1.2.2.2.2⟩, h.2⟩
theorem isSrc.up {Γ Γ' : List Sh} {σ : Mem} {q c d : Nat} {bd : Nat → List Int32} (h : isSrc Γ σ q c d bd) (g : Gle Γ Γ') : isSrc Γ' σ q c d bd := ⟨g _ _ h.1, g _ _ h.2.1, h.2.2.1, h.2.2.2.1, h.2.2.2.2.1, fun i hi => ⟨(h.2.2.2.2.2 i hi).1, (h.2.2.2.2.2 i hi).2.1.up g, (h.2.2.2.2.2 i hi).2.2⟩⟩
theorem isNd.up {Γ Γ' : List Sh} {σ : Mem} {n : Nat} {x : ND} (h : isNd Γ σ n x) (g : Gle Γ Γ') : isNd Γ' σ n x := ⟨g _ _ h.1, h.2.1, h.2.2.1, h.2.2.2.1.up g, h.2.2.2.2.up g⟩
theorem isTree.upg {Γ Γ' : List Sh} {σ : Mem} {T : TS} (h : isTree Γ σ T) (g : Gle Γ Γ') : isTree Γ' σ T := ⟨g _ _ h.1, g _ _ h.2.1, h.2.2.1, h.2.2.2.1, h.2.2.2.2.1, h.2.2.2.2.2.1, fun n hn => ⟨(h.2.2.2.2.2.2 n hn).1, (h.2.2.2.2.2.2 n hn).2.up g⟩⟩
theorem isGen.up {Γ Γ' : List Sh} {σ : Mem} {S : GS} (h : isGen Γ σ S) (g : Gle Γ Γ') : isGen Γ' σ S := ⟨⟨g _ _ h.1.1, g _ _ h.1.2.1, g _ _ h.1.2.2⟩, h.2.1, h.2.2.1, h.2.2.2.1, h.2.2.2.2.1, h.2.2.2.2.2.up g⟩
theorem isDrv.up {Γ Γ' : List Sh} {σ : Mem} (h : isDrv Γ σ) (g : Gle Γ Γ') : isDrv Γ' σ := by
  obtain ⟨a, b, ⟨y1, c1⟩, ⟨y2, c2⟩, y3, c3⟩ := h
  exact ⟨g _ _ a, b, ⟨y1, c1.up g⟩, ⟨y2, c2.up g⟩, y3, c3.up g⟩
theorem isRes.up {Γ Γ' : List Sh} {σ : Mem} (h : isRes Γ σ) (g : Gle Γ Γ') : isRes Γ' σ := ⟨g _ _ h.1, h.2⟩
theorem isRun.up {Γ Γ' : List Sh} {σ : Mem} {y : List Int32} {e : Int32} {m : Nat} (h : isRun Γ σ y e m) (g : Gle Γ Γ') : isRun Γ' σ y e m := by
  obtain ⟨ra, rb, a1, a2, a3, a4, a5, a6, a7, ⟨y2, a8⟩, a9⟩ := h
  exact ⟨ra, rb, g _ _ a1, a2, a3, a4, a5, a6, a7.up g, ⟨y2, a8.up g⟩, a9⟩
theorem isInp.up {Γ Γ' : List Sh} {σ : Mem} {ins : Nat → List Int32} (h : isInp Γ σ ins) (g : Gle Γ Γ') : isInp Γ' σ ins := ⟨g _ _ h.1, fun v hv => ⟨(h.2 v hv).1, (h.2 v hv).2.1.up g, (h.2 v hv).2.2⟩⟩
theorem isCS.up {Γ Γ' : List Sh} {σ : Mem} {K : Nat} {X : CS} (h : isCS Γ σ K X) (g : Gle Γ Γ') : isCS Γ' σ K X := by
  obtain ⟨a1, ⟨a2, b2⟩, ⟨a3, b3⟩, a4, ⟨k, β, hk, a5⟩, a6, a7, a8, a9, ⟨S, a10⟩, a11, a12⟩ := h
  exact ⟨⟨g _ _ a1.1, a1.2⟩, ⟨a2.up g, b2⟩, ⟨a3.up g, b3⟩, a4.up g, ⟨k, β, hk, a5.up g⟩, a6.up g, a7.up g, a8.upg g, a9.up g, ⟨S, a10.up g⟩, a11.up g, a12.up g⟩
theorem MoS.up {Γ Γ' : List Sh} {σ : Mem} (h : MoS Γ σ) (g : Gle Γ Γ') : MoS Γ' σ := ⟨g _ _ h.1, fun k e he => g _ _ (h.2.1 k e he), h.2.2⟩
theorem FrP.zr {σ : Mem} {n : Nat} : FrP (fun a => a = n) σ (zr σ n) := fun a ha => ⟨funext fun i => if_neg ha, funext fun i => if_neg ha, funext fun i => if_neg ha⟩
def MJ (Γ : List Sh) (σ : Mem) (X : CS) : Prop := MoS Γ σ ∧ isMC σ X ∧ isMT σ X ∧ csW X
theorem MJ.P {Γ : List Sh} {σ σ' : Mem} {X : CS} {F : Nat → Prop} (h : MJ Γ σ X) (hf : FrP F σ σ') (h0 : ∀ a, 391 ≤ a → a ≤ 425 → ¬ F a) : MJ Γ σ' X := by
  have e : ∀ a, 391 ≤ a → a ≤ 425 → σ'.1 a = σ.1 a := fun a h1 h2 => (hf a (h0 a h1 h2)).1
  have e1 := e 391 (by omega) (by omega)
  refine ⟨h.1.P hf (h0 391 (by omega) (by omega)), h.2.1.cg (fun a h1 h2 => e a (by omega) (by omega)) (e 425 (by omega) (by omega)) (by rw [e1]) (by rw [e1]) (by rw [e1]) (by rw [e1]) (by rw [e1]), h.2.2.1.tr ⟨fun a h1 h2 => e a (by omega) (by omega), by rw [e1], by rw [e1]⟩, h.2.2.2⟩
theorem MJ.cls {Γ : List Sh} {σ σ' : Mem} {X : CS} (h : MJ Γ σ X) (hf : FrP inCS σ σ') : MJ Γ σ' X := h.P hf (fun a h1 _ z => by unfold inCS at z; omega)
theorem MJ.up {Γ Γ' : List Sh} {σ : Mem} {X : CS} (h : MJ Γ σ X) (g : Gle Γ Γ') : MJ Γ' σ X := ⟨h.1.up g, h.2⟩
theorem MJ.gr {Γ : List Sh} {σ : Mem} {X : CS} {e : Sh} (h : MJ Γ σ X) (hl : 427 ≤ Γ.length) : MJ (Γ ++ [e]) (zr σ Γ.length) X := (h.up Gle.app).P FrP.zr (fun a _ h2 z => by omega)
theorem isCS.gr {Γ : List Sh} {σ : Mem} {K : Nat} {X : CS} {e : Sh} (h : isCS Γ σ K X) (hl : 427 ≤ Γ.length) : isCS (Γ ++ [e]) (zr σ Γ.length) K X := (h.up Gle.app).P FrP.zr (fun a h2 z => by omega)
theorem isCS.ref {Γ : List Sh} {σ σ' : Mem} {K : Nat} {X : CS} (h : isCS Γ σ K X) (hf : FrM σ σ') : isCS Γ σ' K X := h.P hf.P (fun a h1 z => by omega)
/-- the law's things: the class's object, the reference, the array for a result -/
def JS (Γ : List Sh) (σ : Mem) (K : Nat) (X : CS) : Prop := isCS Γ σ K X ∧ MJ Γ σ X ∧ Γ[426]? = some (3, 1)
theorem JS.len {Γ : List Sh} {σ : Mem} {K : Nat} {X : CS} (h : JS Γ σ K X) : 427 ≤ Γ.length := gLt h.2.2
theorem JS.gr {Γ : List Sh} {σ : Mem} {K : Nat} {X : CS} {e : Sh} (h : JS Γ σ K X) : JS (Γ ++ [e]) (zr σ Γ.length) K X := ⟨h.1.gr h.len, h.2.1.gr h.len, Gle.app _ _ h.2.2⟩
theorem JS.mk {Γ : List Sh} {σ σ' : Mem} {K : Nat} {X X' : CS} (hc : isCS Γ σ K X') (hf : FrM σ σ') (hM : MoS Γ σ) (h1 : isMC σ' X') (h2 : isMT σ' X') (h3 : csW X') (ho : Γ[426]? = some (3, 1)) : JS Γ σ' K X' := ⟨hc.ref hf, ⟨hM.m hf, h1, h2, h3⟩, ho⟩
/-- no tree -/
theorem isMT.no {σ : Mem} {X : CS} (h : σ.1 391 11 = 0) (h0 : tN (kR X) = 0) : isMT σ X := ⟨by rw [h, h0]; rfl, fun z => by omega⟩
theorem isMT.bw {σ : Mem} {X : CS} (h : isMT σ X) : BW (kR X) := by
  by_cases h0 : 0 < tN (kR X)
  · obtain ⟨pt0, cs0, T, h1, h2, h3, h4, h5, h6, h7, h8, h9, h10⟩ := h.2 h0
    exact h2.1.BW.of h7.1.1 (fun k => (h7.1.2.2.2 k).2.1)
  · exact fun n hn => absurd hn (by omega)
theorem isMC.dF {σ τ : Mem} {X : CS} (h : isMC σ X) (f : dF σ τ) : isMC τ X := h.cg (fun a h1 h2 => f.1.2 a (by simp [drS]; omega)) (f.1.2 425 (by simp [drS])) (f.2 1 (by simp [drJ])) (f.2 7 (by simp [drJ])) (f.2 43 (by simp [drJ])) (f.2 44 (by simp [drJ])) (f.2 45 (by simp [drJ]))
theorem dF.M {σ τ : Mem} (f : dF σ τ) : FrM σ τ := f.1.M (by simp [drS])
theorem isMC.sg {τ : Mem} {X : CS} {pt : Nat → Int32} {cs : Nat → Bool} {T : TS} (h : isMC τ X) (hp : ∀ f, f < 8 → pt (200 + f) = kP X (200 + f) ∧ cs (200 + f) = kC X (200 + f)) : isMC τ (kSg X pt cs T) := by
  obtain ⟨h1, h2, h3, h4, h5, h6⟩ := h
  refine ⟨h1, fun f hf => ?_, fun f c hf hc => ?_, h4, h5, h6⟩
  · show τ.1 393 f = pt (200 + f) ∧ (pt (200 + f) ≠ 0 → τ.1 394 f = bI (cs (200 + f)))
    rw [(hp f hf).1, (hp f hf).2]
    exact h2 f hf
  · have e : mb (kSg X pt cs T) f c = mb X f c := by
      unfold mb
      show (if pt (200 + f) = 0 then [] else if cs (200 + f) = true then (if c < 6 then kB X (6 * f + c) else []) else (if c = 6 then kB X (6 * f) else [])) = _
      rw [(hp f hf).1, (hp f hf).2]
    rw [e]
    exact h3 f c hf hc
theorem dW_sg {X : CS} {S : GS} (hW : WF (kP X) (dT X S) none) : ∀ f, f < 8 → (dW X S).2.1 (200 + f) = kP X (200 + f) ∧ (dW X S).2.2 (200 + f) = kC X (200 + f) := fun f hf => by
  have e1 : (dW X S).2 = (oT (dT X S) (kP X) (kC X)).2 := rfl
  rw [e1, (oT_sg hW (200 + f)).1, (oT_sg hW (200 + f)).2, if_neg (by omega), if_neg (by omega)]
  exact ⟨rfl, rfl⟩
/-- the tree that a drive leaves -/
theorem isMT.dr {τ : Mem} {X : CS} {S : GS} (hW : csW X) (hne : kG X ≠ []) (hg : tG (dT X S) = false) (h11 : τ.1 391 11 = 1) (h1 : Rt0 τ (dT X S)) (h2 : fnM τ (dT X S)) (h3 : rsM τ (dT X S) (dW X S).1.1 0) (h4 : IS (dW X S).2.1 (dT X S) (dW X S).1.1 0) : isMT τ (kSg X (dW X S).2.1 (dW X S).2.2 (dW X S).1.1) := by
  obtain ⟨d1, d2, d3⟩ := dT_ok (S := S) hW hne
  obtain ⟨hWF, h8⟩ := d3 hg
  obtain ⟨r1, r2, r3, r4⟩ := R0_dT (S := S) hW.2.2.2.1.1
  have hN : 0 < tN (dW X S).1.1 := by rw [h4.1.1]; exact r1
  have e1 : (dW X S).2 = (oT (dT X S) (kP X) (kC X)).2 := rfl
  refine ⟨?_, fun _ => ⟨kP X, kC X, dT X S, hW.2.1, hWF, d1, ⟨h8, r2, r4⟩, fun i => ?_, fun m hm hf => ?_, h4, h1, h2, h3⟩⟩
  · rw [h11]
    show (1 : Int32) = bI (decide (0 < tN (dW X S).1.1))
    rw [decide_eq_true hN]
    rfl
  · show (dW X S).2.1 i = _
    rw [e1]
    exact (oT_sg hWF i).1
  · show (dW X S).2.2 (300 + m) = _
    rw [e1, (oT_sg hWF (300 + m)).2, if_pos ⟨by omega, by omega, by rw [Nat.add_sub_cancel_left]; exact hf⟩, Nat.add_sub_cancel_left]
