/-! what a call leaves on both sides -/
theorem isMT.typ {σ : Mem} {X : CS} {v : Int64} (h : isMT σ X) : isMT σ (csTyp X v) := by unfold csTyp; split <;> exact h
theorem isMT.inp {σ : Mem} {X : CS} {v : Int32} (h : isMT σ X) : isMT σ (csInp X v) := by unfold csInp; split <;> exact h
theorem JS.step {Γ : List Sh} {σ σ1 σ2 : Mem} {K K' : Nat} {X X' : CS} (hJ : JS Γ σ K X) (h1 : isCS Γ σ1 K' X') (f1 : FrP inCS σ σ1) (m1 : isMC σ2 X') (t1 : isMT σ2 X') (w1 : csW X') (f2 : FrM σ1 σ2) : JS Γ σ2 K' X' := JS.mk (X := X) h1 f2 (hJ.2.1.cls f1).1 m1 t1 w1 hJ.2.2
theorem JS.thr {Γ : List Sh} {σ : Mem} {K : Nat} {X : CS} {t : Int32} (hJ : JS Γ σ K X) : JS Γ (wI σ 391 0 t) K X := JS.mk (X := X) hJ.1 (FrM.rf.w (by omega) (by omega)) hJ.2.1.1 hJ.2.1.2.1.thr (hJ.2.1.2.2.1.tr trU.w0) hJ.2.1.2.2.2 hJ.2.2
theorem JS.mK {Γ : List Sh} {σ : Mem} {K K' : Nat} {X : CS} (hJ : JS Γ σ K X) (h : K ≤ K') : JS Γ σ K' X := ⟨hJ.1.mK h, hJ.2⟩
theorem JS.ref {Γ : List Sh} {σ σ' : Mem} {K : Nat} {X : CS} (hJ : JS Γ σ K X) (m : isMC σ' X) (u : trU σ σ') (f : FrM σ σ') : JS Γ σ' K X := JS.mk (X := X) hJ.1 f hJ.2.1.1 m (hJ.2.1.2.2.1.tr u) hJ.2.1.2.2.2 hJ.2.2
