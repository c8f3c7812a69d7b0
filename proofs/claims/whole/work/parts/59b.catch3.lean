/-! methods with handlers: their contract, their call -/
def LKW (M : Mth) (n : Nat) (hh : List (Nat × Nat × Nat × Nat)) : Prop := gd (.codeWith (my M) (mcd M) (mL M) (mrt M) hh) ∧ gd (.initialized (my M).cls) ∧ ((my M).cls ≠ "java/lang/invoke/MethodHandle" ∧ (my M).cls ≠ "java/lang/invoke/VarHandle") ∧ (parseMethodDescriptor (my M).desc).map (fun d => d.parameters.length) = some n ∧ mws M = [.codeWith (my M) (mcd M) (mL M) (mrt M) hh] ∧ mhh M = some hh ∧ mL M + 11 ≤ 32
section CtW
variable {G : Ctx} {M : Mth} {d mc ms n : Nat} {as : List Value} {lv : List (Option Value)} {ll : List (Nat × Int64)} {Γ : List Sh} {σ : Mem} {Q : Option Value → List Sh → Mem → Prop} {hh : List (Nat × Nat × Nat × Nat)}
theorem Ct.ofW (hy : plainName (my M).cls = true) (hL : LKW M n hh) (he : EN as lv ll (mL M)) (k : Wq G M (Em G d mc ms Q) mc ms 0 lv ll [] Γ σ) : Ct G M d mc ms as Γ σ Q := by
  intro hok
  obtain ⟨c1, c2, c3, c4, c5, c7, c6⟩ := hL
  refine va_MetW (cc := mcd M) (maxL := mL M) (ret := mrt M) (hh := hh) (ws' := []) hy c5 ?_
  intro p e s m args below meth c s₁ B hml hP
  obtain ⟨rfl, hW, hbig, hout, hV⟩ := hP
  have C : Cx G M p s m meth c := ⟨hok, B.exec, B.bytes, B.returns, B.notSynchronized, hml, findClass_of_methodNamed B.named, (name_of_methodNamed B.named B.method).1, hW, hbig, hout, fun h9 e9 => by
    cases Option.some.inj (c7.symm.trans e9)
    obtain ⟨m9, meth9, cd9, h0, h1, h2, -, -, h7, -⟩ := Cond.codeWith_spec (atoms_spec (ws := mws M) B.pre _ (by rw [c5]; exact List.mem_cons_self))
    cases Option.some.inj (h0.symm.trans B.named)
    cases Option.some.inj (h1.symm.trans B.method)
    cases Option.some.inj (h2.symm.trans (Stand.of_body B).code)
    rw [← h7]
    exact (table_eq _).symm⟩
  rw [lg_entry_eq]
  have hl0 := lv_entry as he.1
  exact k p e s m _ below meth c C s.heap [] 0 0 _ hV va_S.rf (by simp [eC, Em]) (by simp [eM, Em]) ⟨⟨hl0.1, hl0.2.1, fun q hq => by
    rcases List.mem_append.mp hq with h | h
    · exact hl0.2.2 q (he.2.1 _ _ (asc_mem.mp h)).1
    · obtain ⟨q0, h0, e0⟩ := List.mem_map.mp h
      cases e0
      exact hl0.2.2 _ (he.2.2 q0 h0)⟩, fun i v h => (he.2.1 i v h).2⟩
end CtW
section CSW
variable {G : Ctx} {M M' : Mth} {E : Ev} {d mc ms bc bs pc idx n : Nat} {lv : List (Option Value)} {ll : List (Nat × Int64)} {st as : List Value} {Γ : List Sh} {σ : Mem} {hh : List (Nat × Nat × Nat × Nat)}
theorem x_callSWg (hd : decode (mcd M) pc = .ok (.invokestatic idx, 3)) (hL : LKW M' n hh) (hl : gd (.methodLink (my M).cls idx (my M'))) (hi : gd (.static (my M'))) (hn : as.length = n) (hR : RoomE E d) (hcat : (st.map fun v => v.category).sum ≤ 8)
    (hC : Ct G M' d mc ms as Γ σ (fun r Γ' σ' => Wq G M E bc bs (pc + 3) lv ll (r.toList ++ st) Γ' σ')) : Wq G M E (bc + mc) (bs + ms) pc lv ll (as.reverse ++ st) Γ σ := by
  intro p e s m args below meth c C H locs cells slots ls hV hS h1 h2 hlv
  obtain ⟨c1, c2, c3, c4, c5, c7, c6⟩ := hL
  have hK : Back (cL G) (eR E) p e below s args (my M') 3 8 (PreOf (eR E) mc ms (Pcc G as Γ σ)) (PostOf (QC G (fun r Γ' σ' => Wq G M E bc bs (pc + 3) lv ll (r.toList ++ st) Γ' σ')) mc ms (fre G)) :=
    va_backW (hh := hh) (bytes := mcd M') (maxL := mL M') (ret := mrt M') (hC C.ok) Pcc.blind rfl rfl hR.1 (by have := hR.2.1; show 8 + (mL M' + 11) + 40 * d ≤ (eR E).locals; omega) (by
      rw [c5]
      intro w hw
      rw [List.mem_singleton.mp hw]
      exact C.gw c1) (by rw [c5]; exact List.mem_cons_self) (C.gw c2)
  refine go_run (Q' := fun r Γ' σ' => Wq G M E bc bs (pc + 3) lv ll (r.toList ++ st) Γ' σ') (st := st) C hS h1 h2 hlv (mc := mc) (ms := ms) (a := as.toArray) ?_ (fun _ _ _ h => h)
  intro T hT X
  obtain ⟨mk, methM, cM, hnamed, hmethM, -, -, -, -, -, -, hsigM⟩ := Cond.codeWith_spec (C.g (args := args) c1)
  have hstatic : methM.isStatic = true := Cond.static_spec hnamed hmethM (C.g (args := args) hi)
  obtain ⟨kP, hkP, -⟩ := className_of_methodNamed hnamed
  have hinitP : kP.init = .initialized := Cond.initialized_spec (findClass_of_methodNamed hnamed) hkP (C.g (args := args) c2)
  obtain ⟨vm₁, X₁, hstep₁⟩ := X.invokestatic C.exec C.own (C.g hl) hnamed hmethM hstatic hkP hinitP c3 (g := F0 m pc ls (as.reverse ++ st)) rfl (argsL := as) (rest := st) (hn.trans (len_of c4 _ hsigM)) rfl (by rw [C.code]; exact hd)
  obtain ⟨v, ⟨U', l2, k2, s2⟩, X', ⟨g', mk', t, L, e1, e2, hq, q1, hL2, q2, q3⟩, hsteps⟩ := hK m meth c ⟨T.setVm vm₁, locs, cells, slots⟩ { F0 m pc ls (as.reverse ++ st) with stack := st } (.invokestatic idx) mk as.toArray X₁ rfl (hlv.1.1.trans C.maxL.symm) (by rw [C.code]; exact hd) (lv_room hcat) (X₁.named hnamed) ⟨by have := hR.2.2.1; show cells + mc ≤ _; omega, by have := hR.2.2.2; show slots + ms ≤ _; omega, pre_of C hV hS (T.setVm vm₁) hT X₁.warmed⟩
  dsimp only [Pt.U, Pt.locs, Pt.cells, Pt.slots] at X' e1 e2 q1 q2 q3 hsteps
  subst q1; subst q2; subst q3
  exact ⟨v, (T.setVm vm₁).calling g' mk' as.toArray, t, U', L, hT, X', hL2, e1, e2, hq, fun target h => hstep₁ _ fun acts => by rw [doInvoke_state]; exact hsteps.trans h⟩
end CSW
