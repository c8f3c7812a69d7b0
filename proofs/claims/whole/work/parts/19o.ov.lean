theorem x_aloadO_n {G : Ctx} {M : Mth} {E : Ev} {bc bs pc : Nat} {lv : List (Option Value)} {ll : List (Nat × Int64)} {st : List Value} {Γ : List Sh} {σ : Mem} {k4 : Fin 4} {i : Nat} {o : Option Nat} (hd : decode (mcd M) pc = .ok (.aload_n k4, 1)) (hi : (k4 : Nat) = i) (hv : lv[i]? = some (some (ov G o))) (k : Wq G M E bc bs (pc + 1) lv ll (ov G o :: st) Γ σ) : Wq G M E bc bs pc lv ll st Γ σ := by
  cases o with
  | none => exact x_aloadN_n hd hi hv k
  | some x => exact x_aload_n hd hi hv k
theorem x_aloadO {G : Ctx} {M : Mth} {E : Ev} {bc bs pc : Nat} {lv : List (Option Value)} {ll : List (Nat × Int64)} {st : List Value} {Γ : List Sh} {σ : Mem} {i : Nat} {o : Option Nat} (hd : decode (mcd M) pc = .ok (.aload i, 2)) (hv : lv[i]? = some (some (ov G o))) (k : Wq G M E bc bs (pc + 2) lv ll (ov G o :: st) Γ σ) : Wq G M E bc bs pc lv ll st Γ σ := by
  cases o with
  | none => exact x_aloadN hd hv k
  | some x => exact x_aload hd hv k
theorem x_astoreO_n {G : Ctx} {M : Mth} {E : Ev} {bc bs pc : Nat} {lv : List (Option Value)} {ll : List (Nat × Int64)} {st : List Value} {Γ : List Sh} {σ : Mem} {k4 : Fin 4} {i : Nat} {o : Option Nat} (hd : decode (mcd M) pc = .ok (.astore_n k4, 1)) (hi : (k4 : Nat) = i) (hb4 : (decide (i < mL M) && ll.all (fun q => !(q.1 == i) && !(q.1 + 1 == i))) = true) (k : Wq G M E bc bs (pc + 1) (lv.set i (some (ov G o))) ll st Γ σ) : Wq G M E bc bs pc lv ll (ov G o :: st) Γ σ := by
  cases o with
  | none => exact x_astoreN_n hd hi hb4 k
  | some x => exact x_astore_n hd hi hb4 k
theorem x_astoreO {G : Ctx} {M : Mth} {E : Ev} {bc bs pc : Nat} {lv : List (Option Value)} {ll : List (Nat × Int64)} {st : List Value} {Γ : List Sh} {σ : Mem} {i : Nat} {o : Option Nat} (hd : decode (mcd M) pc = .ok (.astore i, 2)) (hb4 : (decide (i < mL M) && ll.all (fun q => !(q.1 == i) && !(q.1 + 1 == i))) = true) (k : Wq G M E bc bs (pc + 2) (lv.set i (some (ov G o))) ll st Γ σ) : Wq G M E bc bs pc lv ll (ov G o :: st) Γ σ := by
  cases o with
  | none => exact x_astoreN hd hb4 k
  | some x => exact x_astore hd hb4 k
theorem x_getQ {G : Ctx} {M : Mth} {E : Ev} {bc bs pc idx ci j k : Nat} {lv : List (Option Value)} {ll : List (Nat × Int64)} {st : List Value} {Γ : List Sh} {σ : Mem} {o : Option Nat} (hd : decode (mcd M) pc = .ok (.getfield idx, 3)) (hF : FR (my M).cls idx ci j) (ht : isR (tyOf ci j) = true) (hs : Γ[k]? = some (0, ci)) (hv : σ.2.1 k j = o) (kk : Wq G M E bc bs (pc + 3) lv ll (ov G o :: st) Γ σ) : Wq G M E bc bs pc lv ll (rf G k :: st) Γ σ := by
  subst hv
  exact x_get0 hd hF hs (by rw [fval_R ht]; exact kk)
theorem x_aaldQ {G : Ctx} {M : Mth} {E : Ev} {bc bs pc k t n : Nat} {lv : List (Option Value)} {ll : List (Nat × Int64)} {st : List Value} {Γ : List Sh} {σ : Mem} {i : Int32} {o : Option Nat} (hd : decode (mcd M) pc = .ok (.aaload, 1)) (hs : Γ[k]? = some (t, n)) (ht : 4 ≤ t ∧ t < NTY) (hin : vp_in i n) (hv : σ.2.1 k i.toNatClampNeg = o) (kk : Wq G M E bc bs (pc + 1) lv ll (ov G o :: st) Γ σ) : Wq G M E bc bs pc lv ll (.int i :: rf G k :: st) Γ σ := by
  subst hv
  exact x_aald0 hd hs ht hin kk
theorem x_areturnO {G : Ctx} {M : Mth} {d mc ms bc bs pc : Nat} {lv : List (Option Value)} {ll : List (Nat × Int64)} {Γ : List Sh} {σ : Mem} {Q : Option Value → List Sh → Mem → Prop} {n : String} {o : Option Nat} (hd : decode (mcd M) pc = .ok (.areturn, 1)) (hr : mrt M = some (.object n)) (hQ : Q (some (ov G o)) Γ σ) : Wq G M (Em G d mc ms Q) bc bs pc lv ll [ov G o] Γ σ := by
  cases o with
  | none => exact x_areturnN hd hr hQ
  | some x => exact x_areturn hd hr hQ
