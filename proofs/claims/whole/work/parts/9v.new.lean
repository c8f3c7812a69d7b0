/-! what is made anew: cells behind the old ones -/
theorem Wq.bud {G : Ctx} {M : Mth} {E : Ev} {bc bs bc' bs' pc : Nat} {lv : List (Option Value)} {ll : List (Nat × Int64)} {st : List Value} {Γ : List Sh} {σ : Mem} (h1 : bc ≤ bc') (h2 : bs ≤ bs') (k : Wq G M E bc bs pc lv ll st Γ σ) : Wq G M E bc' bs' pc lv ll st Γ σ := fun p e s m args below meth c C H locs cells slots ls hV hS z1 z2 hl => k p e s m args below meth c C H locs cells slots ls hV hS (by omega) (by omega) hl
def No0 : Nat → Prop := fun _ => False
def Is (k : Nat) : Nat → Prop := fun a => a = k
theorem no0 {a : Nat} : ¬ No0 a := fun z => z
theorem Is.no {k a : Nat} (h : a ≠ k) : ¬ Is k a := h
def Nw (Γ : List Sh) (σ : Mem) (F : Nat → Prop) (n : Nat) (Γ' : List Sh) (σ' : Mem) : Prop := Gle Γ Γ' ∧ Γ'.length = Γ.length + n ∧ FrP (fun a => Γ.length ≤ a ∨ F a) σ σ'
section NW
variable {Γ Γ' Γ1 Γ2 : List Sh} {σ σ' σ1 σ2 : Mem} {F : Nat → Prop} {n m k a j : Nat}
theorem Nw.no (_ : Nw Γ σ F n Γ' σ') (ha : a < Γ.length) (hF : ¬ F a) : ¬ (Γ.length ≤ a ∨ F a) := fun z => z.elim (fun y => by omega) hF
theorem Nw.rf : Nw Γ σ F 0 Γ σ := ⟨Gle.rf, rfl, FrP.rf⟩
theorem Nw.tr (h : Nw Γ σ F n Γ1 σ1) (h2 : Nw Γ1 σ1 F m Γ2 σ2) : Nw Γ σ F (n + m) Γ2 σ2 := ⟨h.1.tr h2.1, by rw [h2.2.1, h.2.1]; omega, fun a ha => by
  have h1 : ¬ (Γ1.length ≤ a ∨ F a) := fun z => ha (z.elim (fun y => Or.inl (by have := h.2.1; omega)) Or.inr)
  have e1 := h.2.2 a ha
  have e2 := h2.2.2 a h1
  exact ⟨e2.1.trans e1.1, e2.2.1.trans e1.2.1, e2.2.2.trans e1.2.2⟩⟩
/-- an object, and what its constructor makes -/
theorem Nw.new (h : Nw Γ σ No0 1 Γ1 σ1) (h2 : Nw Γ1 σ1 (Is k) m Γ2 σ2) (hk : Γ.length = k) : Nw Γ σ No0 (1 + m) Γ2 σ2 := ⟨h.1.tr h2.1, by rw [h2.2.1, h.2.1]; omega, fun a ha => by
  have ha' : a < Γ.length := Nat.not_le.mp fun z => ha (Or.inl z)
  have e1 := h.2.2 a ha
  have e2 := h2.2.2 a (fun z => z.elim (fun y => by have := h.2.1; omega) (fun y => by have : a = k := y; omega))
  exact ⟨e2.1.trans e1.1, e2.2.1.trans e1.2.1, e2.2.2.trans e1.2.2⟩⟩
/-- what is made inside a constructor of k, and k's own fields -/
theorem Nw.any (h : Nw Γ σ No0 n Γ1 σ1) : Nw Γ σ F n Γ1 σ1 := ⟨h.1, h.2.1, fun a ha => h.2.2 a (fun z => ha (z.elim Or.inl (fun y => absurd y no0)))⟩
theorem Nw.wI {v : Int32} : Nw Γ σ (Is k) 0 Γ (wI σ k j v) := ⟨Gle.rf, rfl, fun a ha => ⟨wI_o (fun z => ha (Or.inr z)), rfl, rfl⟩⟩
theorem Nw.wR {v : Option Nat} : Nw Γ σ (Is k) 0 Γ (wR σ k j v) := ⟨Gle.rf, rfl, fun a ha => ⟨rfl, wR_o (fun z => ha (Or.inr z)), rfl⟩⟩
theorem Nw.late (h : Nw Γ σ F n Γ1 σ1) (h2 : Nw Γ1 σ1 (Is k) 0 Γ1 σ2) (hk : Γ.length ≤ k) : Nw Γ σ F n Γ1 σ2 := ⟨h.1, h.2.1, fun a ha => by
  have ha' : a < Γ.length := Nat.not_le.mp fun z => ha (Or.inl z)
  have e1 := h.2.2 a ha
  have e2 := h2.2.2 a (fun z => z.elim (fun y => by have := h.2.1; omega) (fun y => by have : a = k := y; omega))
  exact ⟨e2.1.trans e1.1, e2.2.1.trans e1.2.1, e2.2.2.trans e1.2.2⟩⟩
theorem Nw.lateN (h : Nw Γ σ F n Γ1 σ1) (h2 : Nw Γ1 σ1 (Is k) m Γ2 σ2) (hk : Γ.length ≤ k) : Nw Γ σ F (n + m) Γ2 σ2 := ⟨h.1.tr h2.1, by rw [h2.2.1, h.2.1]; omega, fun a ha => by
  have ha' : a < Γ.length := Nat.not_le.mp fun z => ha (Or.inl z)
  have e1 := h.2.2 a ha
  have e2 := h2.2.2 a (fun z => z.elim (fun y => by have := h.2.1; omega) (fun y => by have : a = k := y; omega))
  exact ⟨e2.1.trans e1.1, e2.2.1.trans e1.2.1, e2.2.2.trans e1.2.2⟩⟩
theorem Nw.sh {s : Sh} (w : Nw Γ σ F n Γ' σ') (h : Γ[a]? = some s) : Γ'[a]? = some s := w.1 _ _ h
theorem Nw.len (w : Nw Γ σ F n Γ' σ') (h : Γ.length = k) : Γ'.length = k + n := by rw [w.2.1, h]
theorem Nw.r {v : Option Nat} (w : Nw Γ σ F n Γ' σ') (ha : a < Γ.length) (hF : ¬ F a) (h : σ.2.1 a j = v) : σ'.2.1 a j = v := by rw [(w.2.2 a (w.no ha hF)).2.1]; exact h
theorem Nw.i {v : Int32} (w : Nw Γ σ F n Γ' σ') (ha : a < Γ.length) (hF : ¬ F a) (h : σ.1 a j = v) : σ'.1 a j = v := by rw [(w.2.2 a (w.no ha hF)).1]; exact h
theorem isRow.nw {r q : Nat} {ys : List Int32} (h : isRow Γ σ r q ys) (w : Nw Γ σ F n Γ' σ') (h0 : ¬ F r) (h1 : ¬ F (r + 1)) : isRow Γ' σ' r q ys := (h.P w.2.2 (w.no (gLt h.1) h0) (w.no (gLt h.2.1) h1)).up w.1
theorem isSub.nw {c q : Nat} {β : Nat → Option (Nat × Nat × Nat)} (h : isSub Γ σ c q β) (w : Nw Γ σ F n Γ' σ') (h0 : ∀ a, c ≤ a → a ≤ c + 4 → ¬ F a) : isSub Γ' σ' c q β := (h.P w.2.2 (w.no (gLt h.1.1) (h0 _ (by omega) (by omega))) (w.no (gLt h.1.2.1) (h0 _ (by omega) (by omega))) (w.no (gLt h.1.2.2.1) (h0 _ (by omega) (by omega))) (w.no (gLt h.1.2.2.2.1) (h0 _ (by omega) (by omega))) (w.no (gLt h.1.2.2.2.2) (h0 _ (by omega) (by omega)))).up w.1
theorem isSg.nw {g : Nat} {pt : Nat → Int32} {cs : Nat → Bool} (h : isSg Γ σ g pt cs) (w : Nw Γ σ F n Γ' σ') (h0 : ∀ a, g ≤ a → a ≤ g + 5 → ¬ F a) : isSg Γ' σ' g pt cs := (h.P w.2.2 (w.no (gLt h.1.1) (h0 _ (by omega) (by omega))) (w.no (gLt h.1.2.1) (h0 _ (by omega) (by omega))) (w.no (gLt h.1.2.2.1) (h0 _ (by omega) (by omega)))).up w.1
theorem isSrc.nw {q g c : Nat} {bd : Nat → List Int32} (h : isSrc Γ σ q g c bd) (w : Nw Γ σ F n Γ' σ') (h0 : ∀ a, q ≤ a → a ≤ q + 97 → ¬ F a) : isSrc Γ' σ' q g c bd := by
  have hl := gLt (h.2.2.2.2.2 47 (by omega)).2.1.2.1
  exact (h.P w.2.2 (fun a h1 h2 => w.no (by omega) (h0 a h1 h2))).up w.1
theorem isTree.nw {T : TS} (h : isTree Γ σ T) (w : Nw Γ σ F n Γ' σ') (h0 : ∀ a, 131 ≤ a → a ≤ 372 → ¬ F a) : isTree Γ' σ' T := by
  have hl := gLt (h.2.2.2.2.2.2 47 (by omega)).2.2.2.2.2.2.1
  exact (h.P w.2.2 (fun a h1 => by unfold inT at h1; exact w.no (by omega) (h0 a (by omega) (by omega)))).upg w.1
theorem isGen.nw {S : GS} (h : isGen Γ σ S) (w : Nw Γ σ F n Γ' σ') (h0 : ∀ a, 380 ≤ a → a ≤ 384 → ¬ F a) : isGen Γ' σ' S := by
  have hl := gLt h.1.2.2
  exact (h.P w.2.2 (fun a h1 => by unfold inG at h1; exact w.no (by omega) (h0 a (by omega) (by omega)))).up w.1
theorem isDrv.nw (h : isDrv Γ σ) (w : Nw Γ σ F n Γ' σ') (h0 : ∀ a, 373 ≤ a → a ≤ 379 → ¬ F a) : isDrv Γ' σ' := by
  obtain ⟨y, hy⟩ := h.2.2.2.2
  have hl := gLt hy.2.1
  exact (h.P w.2.2 (fun a h1 => by unfold inD at h1; exact w.no (by omega) (h0 a (by omega) (by omega)))).up w.1
theorem isRes.nw (h : isRes Γ σ) (w : Nw Γ σ F n Γ' σ') (h0 : ¬ F 385) : isRes Γ' σ' := (h.P w.2.2 (w.no (gLt h.1) h0)).up w.1
theorem isInp.nw {ins : Nat → List Int32} (h : isInp Γ σ ins) (w : Nw Γ σ F n Γ' σ') (h0 : ∀ a, 5 ≤ a → a ≤ 21 → ¬ F a) : isInp Γ' σ' ins := by
  have hl := gLt (h.2 7 (by omega)).2.1.2.1
  exact (h.P w.2.2 (fun a h1 h2 => w.no (by omega) (h0 a (by omega) (by omega)))).up w.1
end NW
def okT : FieldType → Bool
  | .int => true
  | .boolean => true
  | .long => true
  | .object _ => true
  | .array _ => true
  | _ => false
theorem dfl {G : Ctx} {ci N : Nat} (h : ∀ j, j < N → okT (tyOf ci j) = true) : ∀ j, j < N → defaultValue (tyOf ci j) = fval G (fun _ => 0) (fun _ => none) (fun _ => 0) j (tyOf ci j) := fun j hj => by
  have z := h j hj
  revert z
  generalize tyOf ci j = ty
  intro z
  cases ty <;> first | rfl | (simp [okT] at z)
theorem Nw.zr {Γ : List Sh} {σ : Mem} {e : Sh} : Nw Γ σ No0 1 (Γ ++ [e]) (zr σ Γ.length) := ⟨Gle.app, by simp, fun a ha => FrP.zr a (fun z => ha (Or.inl (by rw [z]; exact Nat.le_refl _)))⟩
/-- a new cell holds noughts -/
def nil0 (σ : Mem) (k : Nat) : Prop := (∀ j, σ.1 k j = 0) ∧ (∀ j, σ.2.1 k j = none) ∧ ∀ j, σ.2.2 k j = 0
theorem nil0.zr {σ : Mem} {k : Nat} : nil0 (zr σ k) k := ⟨fun _ => if_pos rfl, fun _ => if_pos rfl, fun _ => if_pos rfl⟩
theorem nil0.nw {Γ Γ' : List Sh} {σ σ' : Mem} {F : Nat → Prop} {n k : Nat} (h : nil0 σ k) (w : Nw Γ σ F n Γ' σ') (hk : k < Γ.length) (h0 : ¬ F k) : nil0 σ' k := by
  obtain ⟨e1, e2, e3⟩ := w.2.2 k (w.no hk h0)
  exact ⟨fun j => by rw [e1]; exact h.1 j, fun j => by rw [e2]; exact h.2.1 j, fun j => by rw [e3]; exact h.2.2 j⟩
theorem ap_at {Γ : List Sh} {e : Sh} {k : Nat} (h : Γ.length = k) : (Γ ++ [e])[k]? = some e := by rw [← h]; simp
section NEWS
variable {G : Ctx} {M : Mth} {E : Ev} {bc bs pc idx ci N t k : Nat} {lv : List (Option Value)} {ll : List (Nat × Int64)} {st : List Value} {Γ : List Sh} {σ : Mem}
theorem x_newK {Cn : String} {T : u_T} (hk : Γ.length = k) (hd : decode (mcd M) pc = .ok (.new idx, 3)) (hK : KC ci Cn T N) (hl : gd (.classLink (my M).cls idx Cn)) (hi : gd (.instantiable Cn N)) (hn : gd (.initialized Cn)) (hdf : ∀ j, j < N → okT (tyOf ci j) = true) (hE : EvOK E)
    (kk : ∀ Γ' σ', Nw Γ σ No0 1 Γ' σ' → Γ'[k]? = some (0, ci) → nil0 σ' k → Wq G M E bc bs (pc + 3) lv ll (rf G k :: st) Γ' σ') : Wq G M E (bc + 1) (bs + N) pc lv ll st Γ σ :=
  x_new hd hK hl hi hn (dfl hdf) hE (by rw [hk]; exact kk _ _ (by have := Nw.zr (Γ := Γ) (σ := σ) (e := (0, ci)); rw [hk] at this; exact this) (ap_at hk) nil0.zr)
theorem x_newaK {atype : ArrayType} {n : Int32} (hk : Γ.length = k) (hd : decode (mcd M) pc = .ok (.newarray atype, 2)) (hty : newarray.typeOf atype = ctyp t) (ht : 1 ≤ t ∧ t < 4) (hg : gd (.arrayClass (newarray.typeOf atype))) (hn : ¬ n < 0) (hN : n.toNatClampNeg = N) (hb : N * componentBytes (newarray.typeOf atype) ≤ 536870912) (hE : EvOK E)
    (kk : ∀ Γ' σ', Nw Γ σ No0 1 Γ' σ' → Γ'[k]? = some (t, N) → nil0 σ' k → Wq G M E bc bs (pc + 2) lv ll (rf G k :: st) Γ' σ') : Wq G M E (bc + 1) (bs + N) pc lv ll (.int n :: st) Γ σ :=
  x_newa hd hty ht hg hn hN hb hE (by rw [hk]; exact kk _ _ (by have := Nw.zr (Γ := Γ) (σ := σ) (e := (t, N)); rw [hk] at this; exact this) (ap_at hk) nil0.zr)
theorem x_anewK {Cn : String} {n : Int32} (hk : Γ.length = k) (hd : decode (mcd M) pc = .ok (.anewarray idx, 3)) (hl : gd (.classLink (my M).cls idx Cn)) (hct : ctyp t = .object Cn) (ht : 4 ≤ t ∧ t < NTY) (ho : Cond.arrayOver (.object Cn) ∈ lw_tbl) (hn : ¬ n < 0) (hN : n.toNatClampNeg = N) (hb : N * 4 ≤ 536870912) (hE : EvOK E)
    (kk : ∀ Γ' σ', Nw Γ σ No0 1 Γ' σ' → Γ'[k]? = some (t, N) → nil0 σ' k → Wq G M E bc bs (pc + 3) lv ll (rf G k :: st) Γ' σ') : Wq G M E (bc + 1) (bs + N) pc lv ll (.int n :: st) Γ σ :=
  x_anew hd hl hct ht ho hn hN hb hE (by rw [hk]; exact kk _ _ (by have := Nw.zr (Γ := Γ) (σ := σ) (e := (t, N)); rw [hk] at this; exact this) (ap_at hk) nil0.zr)
end NEWS
