/-! methods that may throw -/
def FrX (first t : State) (L : List Loc) (k n : Nat) : Prop := first.WarmedH t.vm ∧ first.sameButNew ({ t with vm := first.vm } : State) L k n
def MQX (below : List Frame) (Qc : Array Value → State → Outcome → State → Prop) (a : Array Value) (s : State) (mc ms : Nat) (free : Addr → Prop) : State → Prop := fun t =>
  ∃ o, t.status = .running ∧ Ended t below o ∧ Qc a s o t ∧ ∃ L, FrX s t L mc ms ∧ ∀ q ∈ L, free q.base
def MetX (l : Launch) (y : MethodName) (ws : List Cond) (rm : Room) (Pc : Array Value → State → Prop) (Qc : Array Value → State → Outcome → State → Prop) (mc ms : Nat) (free : Addr → Prop) : Prop :=
  MetFree l y (headSpec ws rm) Pc (fun _ _ _ _ _ => True) (fun a st o t => Qc a st o t ∧ ∃ L, FrX st t L mc ms ∧ ∀ q ∈ L, free q.base)
/-- an exception of the class E at cell k -/
def exAt (G : Ctx) (k : Nat) (E : String) (H : Heap) : Prop := ∃ ce : Cell, H[cB G + k]? = some ce ∧ (cS G).vm.findClass E = some ce.cls ∧ ce.vm = .none
def QX (G : Ctx) (Q : Option Value → List Sh → Mem → Prop) (X : String → List Sh → Mem → Prop) : Array Value → State → Outcome → State → Prop := fun _ st o t =>
  (∃ (r : Option Value) (Γ : List Sh) (σ : Mem), o = .returned r ∧ Q r Γ σ ∧ VH G Γ σ t.heap ∧ va_F (fre G) st t) ∨
  (∃ (k : Nat) (E : String) (Γ : List Sh) (σ : Mem), o = .threw (cB G + k) ∧ exAt G k E t.heap ∧ X E Γ σ ∧ VH G Γ σ t.heap ∧ va_F (fre G) st t)
def EmX (G : Ctx) (d mc ms : Nat) (Q : Option Value → List Sh → Mem → Prop) (X : String → List Sh → Mem → Prop) : Ev := (RM d mc ms, mc, ms, fun below args s => MQX below (QX G Q X) args s mc ms (fre G))
def CtX (G : Ctx) (M : Mth) (d mc ms : Nat) (as : List Value) (Γ : List Sh) (σ : Mem) (Q : Option Value → List Sh → Mem → Prop) (X : String → List Sh → Mem → Prop) : Prop :=
  OKc G → MetX (cL G) (my M) (mws M) (RM d mc ms) (Pcc G as Γ σ) (QX G Q X) mc ms (fre G)
theorem RoomE.mx {G : Ctx} {d mc ms : Nat} {Q : Option Value → List Sh → Mem → Prop} {X : String → List Sh → Mem → Prop} : RoomE (EmX G (d + 1) mc ms Q X) d := by
  refine ⟨?_, ?_, Nat.le_refl _, Nat.le_refl _⟩
  · show d + 1 ≤ d + 1; omega
  · show 40 * d + 40 ≤ 40 * (d + 1); omega
theorem MetX.ofW {l : Launch} {y : MethodName} {ws ws' : List Cond} {rm : Room} {Pc : Array Value → State → Prop} {Qc : Array Value → State → Outcome → State → Prop} {mc ms : Nat} {free : Addr → Prop} {cc : ByteArray} {maxL : Nat} {ret : Option FieldType}
    (hy : plainName y.cls = true) (hw : ws = Cond.code y cc maxL ret :: ws')
    (body : ∀ p e s m args below meth c s₁, BodyLoose p l y (headSpec ws rm) cc maxL ret e s m args below meth c s₁ → c.maxLocals = maxL → Pc args s →
      W p l e (headSpec ws rm).room s m args below meth c s.heap [] 0 0 (MQX below Qc args s mc ms free) (entryFrame m args maxL)) : MetX l y ws rm Pc Qc mc ms free := by
  refine MetFree.of_bodyS (code := cc) (maxLocals := maxL) (ret := ret) hy ?_ ?_
  · intro args s m h hn
    obtain ⟨meth, c, h1, h2, h3, h4, h5, h6, -, -⟩ := Cond.code_spec hn (atoms_spec (ws := ws) h _ (by rw [hw]; exact List.mem_cons_self))
    exact ⟨meth, c, h1, h2, h3, h4, h5, h6⟩
  · intro p e s m args below meth c s₁ B hml hP _
    have hh0 : s₁.heap = s.heap := by rw [B.state]; rfl
    obtain ⟨t, a1, o, b1, b2, b3⟩ := body p e s m args below meth c s₁ B hml hP s₁ hh0 (Stand.of_body B)
    exact ⟨t, o, a1, b1, b2, ⟨b3.1, b3.2⟩⟩
section CtXs
variable {G : Ctx} {M : Mth} {d mc ms bc bs pc : Nat} {as : List Value} {lv : List (Option Value)} {ll : List (Nat × Int64)} {st : List Value} {Γ : List Sh} {σ : Mem} {Q : Option Value → List Sh → Mem → Prop} {X : String → List Sh → Mem → Prop}
theorem CtX.of (hy : plainName (my M).cls = true) (hh : mhh M = some []) (he : EN as lv ll (mL M)) (k : Wq G M (EmX G d mc ms Q X) mc ms 0 lv ll [] Γ σ) : CtX G M d mc ms as Γ σ Q X := by
  intro hok
  refine MetX.ofW (cc := mcd M) (maxL := mL M) (ret := mrt M) (ws' := []) hy (by unfold mws; rw [hh]) ?_
  intro p e s m args below meth c s₁ B hml hP
  obtain ⟨rfl, hW, hbig, hout, hV⟩ := hP
  have C : Cx G M p s m meth c := ⟨hok, B.exec, B.bytes, B.returns, B.notSynchronized, hml, findClass_of_methodNamed B.named, (name_of_methodNamed B.named B.method).1, hW, hbig, hout, fun h9 e9 => by
    cases Option.some.inj (hh.symm.trans e9)
    obtain ⟨meth9, c9, h1, h2, -, -, -, -, h7, -⟩ := Cond.code_spec B.named (atoms_spec (ws := mws M) B.pre _ (by unfold mws; rw [hh]; exact List.mem_cons_self))
    cases Option.some.inj (h1.symm.trans B.method)
    cases Option.some.inj (h2.symm.trans (Stand.of_body B).code)
    exact List.eq_nil_iff_forall_not_mem.mpr fun x hx => by
      rw [Array.isEmpty_iff.mp h7] at hx
      cases hx⟩
  rw [lg_entry_eq]
  have hl0 := lv_entry as he.1
  exact k p e s m _ below meth c C s.heap [] 0 0 _ hV va_S.rf (by simp [eC, EmX]) (by simp [eM, EmX]) ⟨⟨hl0.1, hl0.2.1, fun q hq => by
    rcases List.mem_append.mp hq with h | h
    · exact hl0.2.2 q (he.2.1 _ _ (asc_mem.mp h)).1
    · obtain ⟨q0, h0, e0⟩ := List.mem_map.mp h
      cases e0
      exact hl0.2.2 _ (he.2.2 q0 h0)⟩, fun i v h => (he.2.1 i v h).2⟩
theorem Wq.toX (k : Wq G M (Em G d mc ms Q) bc bs pc lv ll st Γ σ) : Wq G M (EmX G d mc ms Q X) bc bs pc lv ll st Γ σ := by
  intro p e s m args below meth c C H locs cells slots ls hV hS h1 h2 hl T hT X0
  obtain ⟨t, a, o, b1, b2, ⟨r, Γ', σ', c1, c2, c3, c4⟩, L, ⟨-, d1, d2⟩, d3⟩ := k p e s m args below meth c C H locs cells slots ls hV hS h1 h2 hl T hT X0
  exact ⟨t, a, o, b1, b2, Or.inl ⟨r, Γ', σ', c1, c2, c3, c4⟩, L, ⟨d1, d2⟩, d3⟩
end CtXs
/-- what is fixed of a throw of the exception E with the text tx, by the entries ic, is, im of the pool -/
def THR (own : String) (ic is im : Nat) (E tx : String) : Prop := gd (.classLink own ic E) ∧ gd (.instantiable E 6) ∧ gd (.initialized E) ∧ Cond.stringRef own is tx ∈ lw_tbl ∧ Bundle.fit E = true ∧
  (Bundle.ownAtoms own im E exNames = (Bundle.ownAtoms own im E exNames).take 52 ++ ([Cond.isRef (.static Bundle.tN "UNASSIGNED_STACK" Bundle.steD), Cond.isRef (.static Bundle.tN "SUPPRESSED_SENTINEL" Bundle.listD)] ++ (Bundle.ownAtoms own im E exNames).drop 54)) ∧
  (∀ w ∈ (Bundle.ownAtoms own im E exNames).take 52, w ∈ lw_tbl) ∧ (∀ w ∈ (Bundle.ownAtoms own im E exNames).drop 54, w ∈ lw_tbl) ∧ ((Bundle.ownAtoms own im E exNames).take 52 ++ (Bundle.ownAtoms own im E exNames).drop 54).all (fun w => goodWord w || faceW w) = true
section Throws
variable {G : Ctx} {M : Mth} {d mc ms bc bs pc ic is im : Nat} {lv : List (Option Value)} {ll : List (Nat × Int64)} {Γ : List Sh} {σ : Mem} {Q : Option Value → List Sh → Mem → Prop} {X : String → List Sh → Mem → Prop} {E tx : String}
theorem cx_anew {p : Program} {e : Env} {R : Room} {s T : State} {m : MethodId} {args : Array Value} {below : List Frame} {meth : Method} {c : Code} {H : Heap} {locs : List Loc} {cells slots : Nat} (C : Cx G M p s m meth c) (X0 : Stand p (cL G) e R s m args below meth c T locs cells slots) (hT : T.heap = H) (hS : va_S (fre G) s.heap H locs) : Cx G M p (anew s T) m meth c := by
  refine ⟨C.ok, C.exec, C.code, C.ret, C.locks, C.maxL, ?_, C.name, State.WarmedH.trans C.warm X0.warmed, ?_, ?_, C.tab⟩
  · show T.vm.findClass (my M).cls = some m.cls
    rw [X0.warmed.alike.findClass]; exact C.own
  · show cB G ≤ T.heap.size
    rw [hT]; exact Nat.le_trans C.big hS.1
  · intro q hq
    show T.heap[q]? = _
    rw [hT, hS.2.1 q (Nat.lt_of_lt_of_le hq C.big) (fun h => absurd h (Nat.not_le.mpr hq))]
    exact C.out q hq
theorem x_throw (hd0 : decode (mcd M) pc = .ok (.new ic, 3)) (hd3 : decode (mcd M) (pc + 3) = .ok (.dup, 1)) (hd4 : decode (mcd M) (pc + 3 + 1) = .ok (.ldc is, 2)) (hd6 : decode (mcd M) (pc + 3 + 1 + 2) = .ok (.invokespecial im, 3)) (hd9 : decode (mcd M) (pc + 3 + 1 + 2 + 3) = .ok (.athrow, 1)) (hh : mhh M = some []) (hK : THR (my M).cls ic is im E tx) (hX : X E (Γ ++ [(9, 0)]) (zr σ Γ.length)) : Wq G M (EmX G (d + 6) mc ms Q X) (bc + 1) (bs + 6) pc lv ll [] Γ σ := by
  intro p e s m args below meth c C H locs cells slots ls hV hS h1 h2 hlv T hT X0
  have h1' : cells + (bc + 1) ≤ mc := h1
  have h2' : slots + (bs + 6) ≤ ms := h2
  obtain ⟨k1, k2, k3, k4, k5, k6, k7, k8, k9⟩ := hK
  have X1 := rebase (R' := { frames := d + 6, cells := 1, slots := 6, locals := 40 * (d + 6) }) X0 (by show cells + 1 ≤ mc; omega) (by show slots + 6 ≤ ms; omega) (Nat.le_refl _) (Nat.le_refl _)
  have C1 := cx_anew C X0 hT hS
  have hsz : (anew s T).heap.size = H.size := by show T.heap.size = _; rw [hT]
  obtain ⟨cC, kX, hc, hk, -⟩ := Cond.instantiable_spec (C1.g (args := args) k2)
  have htr : e.platform.stackTraces = false := by
    rw [X0.admits.2.2.2.2.1]
    exact C.ok.2.2.2
  obtain ⟨q, hstr⟩ := str_at (C.ok.1 _ k4)
  have hstr1 := vk_R.warm C1.warm hstr
  have w : W p (cL G) e { frames := d + 6, cells := 1, slots := 6, locals := 40 * (d + 6) } (anew s T) m args below meth c H [] 0 0 (fun t => t.status = .running ∧ Ended t below (.threw H.size) ∧ (anew s T).WarmedH t.vm ∧ (anew s T).sameButNew ({ t with vm := (anew s T).vm } : State) [] 1 6 ∧ ∃ ce, t.heap[H.size]? = some ce ∧ Bundle.OwnCell args (anew s T) E H.size (.ref q) ce) (F0 m pc ls []) := by
    refine W.newcK C1.exec C1.code C1.own (C1.g k1) (C1.g k2) (C1.g k3) rfl hd0 (Nat.le_refl _) (Nat.le_refl _) hc rfl fun H1 kC hkC e1 z1 o1 => ?_
    refine lv_dup C1.exec C1.code hd3 rfl ?_
    refine va_ldcS C1.exec C1.code C1.own hstr1 hd4 ?_
    intro T2 hT2 X2
    obtain ⟨U, st, u1, u2, u3, u4, ce, u5, u6⟩ := X2.ctorThrowS C1.exec htr C1.own k5 (names := exNames) (fun n hn => by simp [exNames] at hn; rcases hn with rfl | rfl <;> decide +kernel) (own_at C1 k6 k7 k8 k9) (fun x hx => by cases hx) hc hkC (a := H.size) (by rw [hT2]; exact e1) (by rw [hsz]; exact Nat.le_refl _) (msg := .ref q) rfl (g := F0 m (pc + 3 + 1 + 2) ls [.ref q, .ref H.size, .ref H.size]) rfl (hlv.1.1.trans C.maxL.symm) rfl rfl (rest := []) rfl (by rw [C.code]; exact hd6) (by rw [C.code]; exact hd9) (fun x hx => by rw [C.tab _ hh] at hx; cases hx) (by show 2 + 3 < d + 6; omega) (by have h8 : 2 * (F0 m (pc + 3 + 1 + 2) ls [.ref q, .ref H.size, .ref H.size]).monitorRoom + (([Value.ref H.size] : List Value).map fun v => v.category).sum ≤ 8 := lv_room (Nat.le_of_ble_eq_true rfl); show _ + (13 * (2 + 1) + 42) ≤ 40 * (d + 6); omega) C.locks
    exact ⟨U, st, u1, u2, u3, u4, ce, u5, u6⟩
  obtain ⟨t, st, t1, t2, t3, t4, ce, t5, t6⟩ := w T hT X1
  have hlt : H.size < t.heap.size := (Array.getElem?_eq_some_iff.mp t5).1
  have hz : t.heap.size = H.size + 1 := by
    have := t4.2.2.1
    rw [hsz] at this
    have h9 : t.heap.size ≤ H.size + 1 := this
    omega
  have ho : ∀ q : Nat, q < H.size → t.heap[q]? = H[q]? := by
    intro q hq
    have hq2 : q < T.heap.size := by rw [hT]; exact hq
    obtain ⟨c', e1, e2, e3, e4⟩ := t4.2.2.2.2.2 q T.heap[q] (Array.getElem?_eq_getElem hq2)
    have e5 : c' = T.heap[q] := by
      rw [e2]
      have : c'.slots = T.heap[q].slots := Array.ext_getElem? (fun i => e4 i (by simp))
      rw [this]
    have e6 : t.heap[q]? = some c' := e1
    rw [e6, e5, ← hT]
    exact (Array.getElem?_eq_getElem hq2).symm
  have hwarm : s.WarmedH t.vm := State.WarmedH.trans X0.warmed t3
  refine ⟨t, st, .threw H.size, t1, t2, Or.inr ⟨Γ.length, E, Γ ++ [(9, 0)], zr σ Γ.length, by rw [hV.1], ⟨ce, by rw [← hV.1]; exact t5, ?_, t6.vm⟩, hX, hV.push hz ho (fun h => absurd h (by decide)), ?_, ?_⟩, locs, ⟨hwarm, ?_⟩, hS.2.2⟩
  · have := t6.cls
    rw [← C1.warm.alike.findClass]
    exact this
  · rw [hz]; exact Nat.le_trans hS.1 (Nat.le_succ _)
  · intro q hq hf
    rw [ho q (Nat.lt_of_lt_of_le hq hS.1)]
    exact hS.2.1 q hq hf
  · have g1 : T.sameButNew ({ t with vm := T.vm } : State) [] 1 6 := by
      refine ⟨?_, t4.2⟩
      have x1 := X1.same.1
      have x2 := t4.1
      have x3 : T = (anew s T).setFrames T.frames := x1
      have x4 : ({ t with vm := T.vm } : State) = { (anew s T).setFrames t.frames with heap := t.heap, slotsUsed := t.slotsUsed } := x2
      refine x4.trans ?_
      conv => rhs; rw [x3]
      rw [State.setFrames_setFrames]
      rfl
    have g2 := X0.same.trans (g1.setVm s.vm)
    rw [List.append_nil] at g2
    exact g2.weaken (fun y hy _ => hy) (by omega) (by omega)
end Throws
