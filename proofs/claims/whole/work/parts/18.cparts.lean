/-! SuperDriver.CONSTRUCTOR_PARTS: an array that nobody writes -/
def cPt (j : Nat) : Int32 := match j with
  | 1 => 1
  | 2 => 2
  | 4 => 1
  | 5 => 2
  | _ => 0
def CPa (G : Ctx) (a0 : Nat) (U : State) : Prop := va_Z "SuperDriver" "CONSTRUCTOR_PARTS" "[I" (.ref a0) (fre G) U U.heap ∧ va_T .int a0 6 (fun j => .int (cPt j)) (fre G) U U.heap
theorem cp_start {G : Ctx} (h : OKc G) : ∃ a0, CPa G a0 (cS G) := by
  have hs := flat_of_before _ h.2.2.1
  have hA : ∀ a : Nat, a < (cS G).heap.size → ¬ fre G a := fun a ha z => absurd z (Nat.not_le.mpr ha)
  have harr : (Cond.arrayOf (.static "SuperDriver" "CONSTRUCTOR_PARTS" "[I") .int).before (cA0 G) (cS G) = true := hs _ (by decide +kernel)
  have hlen := va_eqt (hs (Cond.eq (.length (.static "SuperDriver" "CONSTRUCTOR_PARTS" "[I")) (.int 6)) (by decide +kernel))
  have e0 := va_eqt (hs (Cond.eq (.elem (.static "SuperDriver" "CONSTRUCTOR_PARTS" "[I") (.int 0)) (.int 0)) (by decide +kernel))
  have e1 := va_eqt (hs (Cond.eq (.elem (.static "SuperDriver" "CONSTRUCTOR_PARTS" "[I") (.int 1)) (.int 1)) (by decide +kernel))
  have e2 := va_eqt (hs (Cond.eq (.elem (.static "SuperDriver" "CONSTRUCTOR_PARTS" "[I") (.int 2)) (.int 2)) (by decide +kernel))
  have e3 := va_eqt (hs (Cond.eq (.elem (.static "SuperDriver" "CONSTRUCTOR_PARTS" "[I") (.int 3)) (.int 0)) (by decide +kernel))
  have e4 := va_eqt (hs (Cond.eq (.elem (.static "SuperDriver" "CONSTRUCTOR_PARTS" "[I") (.int 4)) (.int 1)) (by decide +kernel))
  have e5 := va_eqt (hs (Cond.eq (.elem (.static "SuperDriver" "CONSTRUCTOR_PARTS" "[I") (.int 5)) (.int 2)) (by decide +kernel))
  obtain ⟨t, ht, hT⟩ := va_Tof (f := fun j => .int (cPt j)) (N := 6) (by decide) harr hlen (fun j hj => by
    rcases (show j = 0 ∨ j = 1 ∨ j = 2 ∨ j = 3 ∨ j = 4 ∨ j = 5 by omega) with rfl | rfl | rfl | rfl | rfl | rfl
    · exact e0
    · exact e1
    · exact e2
    · exact e3
    · exact e4
    · exact e5) hA
  exact ⟨t, va_Zof (h.1 _ (tb1_in (i := 81) rfl)) (h.1 _ ini_SD.1) ht hA, hT⟩
theorem CPa.at {G : Ctx} {M : Mth} {p : Program} {s : State} {m : MethodId} {meth : Method} {c : Code} (C : Cx G M p s m meth c) {a0 : Nat} (h : CPa G a0 (cS G)) : CPa G a0 s := by
  have hq : ∀ a : Nat, a < (cS G).heap.size → ¬ fre G a → s.heap[a]? = (cS G).heap[a]? := fun a ha _ => C.out a ha
  exact ⟨va_Z.kept (va_Z.moved C.warm.alike h.1) hq, va_T.kept (va_T.moved C.warm.alike h.2) hq⟩
section CP
variable {G : Ctx} {M : Mth} {E : Ev} {bc bs pc idx a0 : Nat} {lv : List (Option Value)} {ll : List (Nat × Int64)} {st : List Value} {Γ : List Sh} {σ : Mem} {i : Int32}
theorem x_getsCP (hd : decode (mcd M) pc = .ok (.getstatic idx, 3)) (hl : gd (.fieldLink (my M).cls idx "SuperDriver" "CONSTRUCTOR_PARTS" "[I")) (kk : ∀ a0, CPa G a0 (cS G) → Wq G M E bc bs (pc + 3) lv ll (.ref a0 :: st) Γ σ) : Wq G M E bc bs pc lv ll st Γ σ := by
  intro p e s m args below meth c C H locs cells slots ls hV hS h1 h2 hlv
  obtain ⟨a0, ha⟩ := cp_start C.ok
  exact va_gets C.exec C.code (ha.at C).1 hS C.own (C.g hl) (fun _ h => h) hd (kk a0 ha p e s m args below meth c C H locs cells slots ls hV hS h1 h2 hlv)
theorem x_getsCPN {host : String} (hd : decode (mcd M) pc = .ok (.getstatic idx, 3)) (hl : Cond.fieldLinkNest (my M).cls idx "SuperDriver" "CONSTRUCTOR_PARTS" "[I" host ∈ lw_tbl) (kk : ∀ a0, CPa G a0 (cS G) → Wq G M E bc bs (pc + 3) lv ll (.ref a0 :: st) Γ σ) : Wq G M E bc bs pc lv ll st Γ σ := by
  intro p e s m args below meth c C H locs cells slots ls hV hS h1 h2 hlv
  obtain ⟨a0, ha⟩ := cp_start C.ok
  exact va_getsN C.exec C.code (ha.at C).1 hS C.own (va_Nw.use rfl (va_Nw.warmF C.warm (va_Nw.of rfl (C.ok.1 _ hl)))) (fun _ h => h) hd (kk a0 ha p e s m args below meth c C H locs cells slots ls hV hS h1 h2 hlv)
theorem x_cpald (hd : decode (mcd M) pc = .ok (.iaload, 1)) (ha : CPa G a0 (cS G)) (hin : vp_in i 6) (kk : Wq G M E bc bs (pc + 1) lv ll (.int (cPt i.toNatClampNeg) :: st) Γ σ) : Wq G M E bc bs pc lv ll (.int i :: .ref a0 :: st) Γ σ := by
  intro p e s m args below meth c C H locs cells slots ls hV hS h1 h2 hlv
  exact va_ti C.exec C.code (ha.at C).2 hS hin rfl hd (kk p e s m args below meth c C H locs cells slots ls hV hS h1 h2 hlv)
end CP
