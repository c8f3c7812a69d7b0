/-! a call in a method that catches -/
/-- the handler at hpc takes the exception Ex that comes from pc -/
def HF (M : Mth) (pc : Nat) (hh : List (Nat × Nat × Nat × Nat)) (Ex : String) (hpc : Nat) : Prop :=
  (∃ x t C1, tableOf hh = x :: t ∧ covers x pc = true ∧ x.catchType ≠ 0 ∧ x.handlerPc = hpc ∧ gd (.classLink (my M).cls x.catchType C1) ∧ Cond.castable Ex C1 ∈ lw_tbl) ∨
  (∃ x1 x2 t C1 C2, tableOf hh = x1 :: x2 :: t ∧ covers x1 pc = true ∧ x1.catchType ≠ 0 ∧ covers x2 pc = true ∧ x2.catchType ≠ 0 ∧ x2.handlerPc = hpc ∧ gd (.classLink (my M).cls x1.catchType C1) ∧ gd (.classLink (my M).cls x2.catchType C2) ∧ Cond.not (.castable Ex C1) ∈ flatC (Cond.and given_1 narrow_1) ∧ Cond.castable Ex C2 ∈ lw_tbl)
theorem notcast {A : Array Value} {U : State} {x y : String} {c t : ClassId} (h : (Cond.not (.castable x y)).before A U = true) (h1 : U.vm.findClass x = some c) (h2 : U.vm.findClass y = some t) : U.vm.assignable c t = false := by
  simp only [Cond.before, Cond.holds, Cond.value, h1, h2] at h
  simpa using h
section CX
variable {G : Ctx} {M M' : Mth} {E : Ev} {d mc ms bc bs pc idx n k ci : Nat} {lv : List (Option Value)} {ll : List (Nat × Int64)} {st as : List Value} {Γ : List Sh} {σ : Mem}
theorem finds_of {p : Program} {e : Env} {R : Room} {s T : State} {m : MethodId} {args : Array Value} {below : List Frame} {meth : Method} {c : Code} {locs : List Loc} {cells slots hpc k' : Nat} {hh : List (Nat × Nat × Nat × Nat)} {Ex : String} {g : JFrame}
    (C : Cx G M p s m meth c) (X : Stand p (cL G) e R s m args below meth c T locs cells slots) (hhh : mhh M = some hh) (hg : g.method = m) (hpc2 : g.pc = pc) (hx : exAt G k' Ex T.heap) (hf : HF M pc hh Ex hpc) :
    ∃ vm', s.WarmedH vm' ∧ FindsTo e ((T.setTop g).pushFrame (.throwing (cB G + k'))) g (cB G + k') (.found hpc) vm' := by
  subst hg
  subst hpc2
  have hpl : e.platform.magicAccessors = ({} : Platform).magicAccessors := by rw [X.admits.platform]
  obtain ⟨ce, hce, hcl, hvm⟩ := hx
  have hv : ((T.setTop g).pushFrame (.throwing (cB G + k'))).vm = T.vm := Stand.throwing_vm T g _
  have hh2 : ((T.setTop g).pushFrame (.throwing (cB G + k'))).heap = T.heap := Stand.throwing_heap T g _
  have hm' : ((T.setTop g).pushFrame (.throwing (cB G + k'))).vm.method? g.method = some meth := by rw [hv]; exact X.method'
  have hobj : ∀ k, ce.vm ≠ .statics k := fun k z => by rw [hvm] at z; cases z
  have htab := C.tab _ hhh
  have hcls : ∀ vm', s.WarmedH vm' → ∃ k, vm'.classes[ce.cls]? = some k := fun vm' hW => by
    have h1 : vm'.findClass Ex = some ce.cls := by rw [hW.alike.findClass, C.warm.alike.findClass]; exact hcl
    exact Vm.classAt_of_findClass h1
  have hcel : ∀ vm', (((T.setTop g).pushFrame (.throwing (cB G + k'))).setVm vm').heap[cB G + k']? = some ce := fun vm' => by
    show ((T.setTop g).pushFrame (.throwing (cB G + k'))).heap[cB G + k']? = some ce
    rw [hh2]; exact hce
  have hcel0 : ((T.setTop g).pushFrame (.throwing (cB G + k'))).heap[cB G + k']? = some ce := by rw [hh2]; exact hce
  rcases hf with ⟨x, t, C1, t1, t2, t3, t4, t5, t6⟩ | ⟨x1, x2, t, C1, C2, t1, t2, t3, t4, t5, t6, t7, t8, t9, t10⟩
  · obtain ⟨cc, hfc, hlk⟩ := Cond.classLink_spec C.own (C.g (args := args) t5) e.platform hpl
    obtain ⟨g1, w1, -⟩ := State.classEntry (e := e) X.warmed hlk
    obtain ⟨cE, cT, q1, q2, q3⟩ := Cond.castable_spec (C.ok.1 _ t6)
    cases Option.some.inj (hcl.symm.trans q1)
    have q4 : s.vm.findClass C1 = some cT := by rw [C.warm.alike.findClass]; exact q2
    cases Option.some.inj (hfc.symm.trans q4)
    refine ⟨_, w1, fun Q E2 dd acts => ?_⟩
    rw [W.findHandler_eq hm' X.code, htab, t1, fh_cold t2 t3 (by rw [hv]; exact g1) (by rw [hv]; no_record) hcel0 hobj (hcls _ w1) (Vm.classAt_of_findClass (by rw [w1.alike.findClass]; exact hfc)), if_pos (by rw [w1.alike.assignable, C.warm.alike.assignable]; exact q3), t4]
  · obtain ⟨cc, hfc, hlk⟩ := Cond.classLink_spec C.own (C.g (args := args) t7) e.platform hpl
    obtain ⟨g1, w1, -⟩ := State.classEntry (e := e) X.warmed hlk
    obtain ⟨cc2, hfc2, hlk2⟩ := Cond.classLink_spec C.own (C.g (args := args) t8) e.platform hpl
    obtain ⟨g2, w2, -⟩ := State.classEntry (e := e) w1 hlk2
    obtain ⟨cE, cT, q1, q2, q3⟩ := Cond.castable_spec (C.ok.1 _ t10)
    cases Option.some.inj (hcl.symm.trans q1)
    have q4 : s.vm.findClass C2 = some cT := by rw [C.warm.alike.findClass]; exact q2
    cases Option.some.inj (hfc2.symm.trans q4)
    have q5 : (cS G).vm.findClass C1 = some cc := by rw [← C.warm.alike.findClass]; exact hfc
    have q6 := notcast (flat_of_before _ C.ok.2.2.1 _ t9) q1 q5
    refine ⟨_, w2, fun Q E2 dd acts => ?_⟩
    rw [W.findHandler_eq hm' X.code, htab, t1, fh_cold t2 t3 (by rw [hv]; exact g1) (by rw [hv]; no_record) hcel0 hobj (hcls _ w1) (Vm.classAt_of_findClass (by rw [w1.alike.findClass]; exact hfc)), if_neg (by rw [w1.alike.assignable, C.warm.alike.assignable, q6]; decide)]
    refine (fh_cold (s := ((T.setTop g).pushFrame (.throwing (cB G + k'))).setVm (T.vm.noted g.method.cls x1.catchType (.cls cc))) t4 t5 g2 (by show (Vm.noted _ _ _ _).classes.size ≤ (T.vm.noted g.method.cls x1.catchType (.cls cc)).classes.size; no_record) (hcel _) hobj (hcls _ w2) (Vm.classAt_of_findClass (by rw [w2.alike.findClass]; exact hfc2))).trans ?_
    rw [if_pos (by rw [w2.alike.assignable, C.warm.alike.assignable]; exact q3), t6]
    rfl
theorem x_callVXg {r : vw_C} {hh : List (Nat × Nat × Nat × Nat)} (hd : decode (mcd M) pc = .ok (.invokevirtual idx, 3)) (hL : LK M' n) (hl : gd (.methodLink (my M).cls idx (my M'))) (hi : gd (.instanceMethod (my M'))) (hc : vwCl[ci]? = some r) (hsel : gd (.selects r.1 (my M') (my M'))) (hs : Γ[k]? = some (0, ci)) (hn : as.length = n) (hR : RoomE E d) (hcat : (st.map fun v => v.category).sum ≤ 8) (hhh : mhh M = some hh)
    (hC : CtX G M' d mc ms (rf G k :: as) Γ σ (fun r Γ' σ' => Wq G M E bc bs (pc + 3) lv ll (r.toList ++ st) Γ' σ') (fun Ex Γ' σ' => ∃ hpc, HF M pc hh Ex hpc ∧ ∀ k', Wq G M E bc bs hpc lv ll [rf G k'] Γ' σ')) : Wq G M E (bc + mc) (bs + ms) pc lv ll (as.reverse ++ rf G k :: st) Γ σ := by
  intro p e s m args below meth c C H locs cells slots ls hV hS h1 h2 hlv T hT X
  obtain ⟨c1, c2, c3, c4, c5, c6⟩ := hL
  obtain ⟨cellB, hcB, hoB, hclB⟩ := rcv_of C hV hc hs
  obtain ⟨mk, methM, hnamed, hmethM, hstM, habM⟩ := Cond.instanceMethod_spec (C.g (args := args) hi)
  obtain ⟨methM', cM, hmethM', -, -, -, -, -, -, hsigM⟩ := Cond.code_spec hnamed (C.g (args := args) c1)
  cases hmethM.symm.trans hmethM'
  obtain ⟨cc2, r2, m2, q1, q2, q3, q4, kP, hkP, hkPi⟩ := Cond.selects_spec (C.g (args := args) hsel)
  cases hclB.symm.trans q1
  cases (State.methodFound?_of_named hnamed c3).symm.trans q2
  cases hnamed.symm.trans q3
  have hselP : selectMethod e.platform s.vm cellB.cls mk = .method mk := by rw [Launch.admits_selectMethod X.admits]; exact q4
  obtain ⟨vm₁, X₁, hstep₁⟩ := X.invokevirtual C.exec C.own (C.g hl) hnamed hmethM hstM hkP hkPi c3 (a := cB G + k) (cell := cellB) (by rw [hT]; exact hcB)
    (fun z h => by rw [h] at hoB; cases hoB) hselP hmethM habM hkP hkPi (g := F0 m pc ls (as.reverse ++ rf G k :: st)) rfl (argsL := as) (rest := st) (hn.trans (len_of c4 _ hsigM)) rfl (by rw [C.code]; exact hd)
  obtain ⟨t, T', L, X', hLf, e1, hcase⟩ := backX (hC C.ok) Pcc.blind (bytes := mcd M') (maxL := mL M') (ret := mrt M') (len := 3) (ig := .invokevirtual idx) (a := (rf G k :: as).toArray) (g := F0 m pc ls st) (mk := mk) rfl rfl hR.1 (by have := hR.2.1; show 8 + (mL M' + 11) + 40 * d ≤ (eR E).locals; omega) (by
      rw [c5]
      intro w hw
      rw [List.mem_singleton.mp hw]
      exact C.gw c1) (by rw [c5]; exact List.mem_cons_self) (C.gw c2) X₁ rfl (hlv.1.1.trans C.maxL.symm) (by rw [C.code]; exact hd) (lv_room hcat) (X₁.named hnamed) (by have := hR.2.2.1; omega) (by have := hR.2.2.2; omega) (pre_of C hV hS (T.setVm vm₁) hT X₁.warmed)
  have hgo : ∀ Γ' σ', VH G Γ' σ' t.heap → va_F (fre G) ((T.setVm vm₁).calling (F0 m pc ls st) mk (rf G k :: as).toArray) t → va_S (fre G) s.heap T'.heap (locs ++ L) := by
    intro Γ' σ' hV' hz
    have hz1 : H.size ≤ t.heap.size := by have := hz.1; rw [← hT]; exact this
    refine ⟨Nat.le_trans hS.1 (by rw [e1]; exact hz1), fun q g1 g2 => ?_, fun q hq2 => ?_⟩
    · have := hz.2 q (by show q < T.heap.size; rw [hT]; exact Nat.lt_of_lt_of_le g1 hS.1) g2
      rw [e1, this]
      show T.heap[q]? = _
      rw [hT]
      exact hS.2.1 q g1 g2
    · rcases List.mem_append.mp hq2 with h | h
      · exact hS.2.2 q h
      · exact hLf q h
  rcases hcase with ⟨v, hq, hst⟩ | ⟨x, hq, hst⟩
  · rcases hq with ⟨r', Γ', σ', hv, hw, hV', hz⟩ | ⟨k', Ex, Γ', σ', hv, -⟩
    · cases hv
      obtain ⟨t2, a1, b1⟩ := hw p e s m args below meth c C T'.heap (locs ++ L) (cells + mc) (slots + ms) ls (by rw [e1]; exact hV') (hgo Γ' σ' hV' hz) (by omega) (by omega) hlv T' rfl X'
      exact ⟨t2, hstep₁ _ fun acts => by rw [doInvoke_state]; exact hst.trans a1, b1⟩
    · cases hv
  · rcases hq with ⟨r', Γ', σ', hv, -⟩ | ⟨k', Ex, Γ', σ', hv, hex, ⟨hpc, hf, hw⟩, hV', hz⟩
    · cases hv
    · cases hv
      obtain ⟨vm', hW', hfd⟩ := finds_of C X' hhh (g := F0 m pc ls st) rfl rfl (by rw [e1]; exact hex) hf
      have X'' := X'.noted hW'
      obtain ⟨t2, a1, b1⟩ := hw k' p e s m args below meth c C T'.heap (locs ++ L) (cells + mc) (slots + ms) ls (by rw [e1]; exact hV') (hgo Γ' σ' hV' hz) (by omega) (by omega) hlv (T'.setVm vm') rfl X''
      refine ⟨t2, hstep₁ _ fun acts => ?_, b1⟩
      rw [doInvoke_state]
      exact hst.trans (caught_to (g := F0 m pc ls st) X'.here hfd a1)
end CX
