/-! methods' ends, contracts -/
def RM (d mc ms : Nat) : Room := { frames := d, cells := mc, slots := ms, locals := 40 * d }
def QC (G : Ctx) (Q : Option Value → List Sh → Mem → Prop) : Array Value → State → Outcome → State → Prop := fun _ st o t => ∃ (r : Option Value) (Γ : List Sh) (σ : Mem), o = .returned r ∧ Q r Γ σ ∧ VH G Γ σ t.heap ∧ va_F (fre G) st t
def Em (G : Ctx) (d mc ms : Nat) (Q : Option Value → List Sh → Mem → Prop) : Ev := (RM d mc ms, mc, ms, fun below args s => MQ below (QC G Q) args s mc ms (fre G))
def Pcc (G : Ctx) (as : List Value) (Γ : List Sh) (σ : Mem) : Array Value → State → Prop := va_Pc as (fun U => (cS G).WarmedH U.vm ∧ cB G ≤ U.heap.size ∧ Out G U.heap ∧ VH G Γ σ U.heap)
def Ct (G : Ctx) (M : Mth) (d mc ms : Nat) (as : List Value) (Γ : List Sh) (σ : Mem) (Q : Option Value → List Sh → Mem → Prop) : Prop :=
  OKc G → Met (cL G) (my M) (mws M) (RM d mc ms) (Pcc G as Γ σ) (QC G Q) mc ms (fre G)
def EN (as : List Value) (lv : List (Option Value)) (ll : List (Nat × Int64)) (nL : Nat) : Prop := (lg_sl as).length ≤ nL ∧ (∀ (i : Nat) (v : Value), lv[i]? = some (some v) → (i, v) ∈ lv_args 0 as ∧ v.category = 1) ∧ ∀ q ∈ ll, (q.1, Value.long q.2) ∈ lv_args 0 as
def cat1 : List Value → Prop
  | [] => True
  | v :: r => v.category = 1 ∧ cat1 r
theorem cat1_sl : ∀ {as : List Value}, cat1 as → (lg_sl as).length = as.length
  | [], _ => rfl
  | v :: r, h => by
    have h2 := cat1_sl (as := r) h.2
    have h1 := h.1
    simp [lg_sl, h1] at h2 ⊢
    omega
theorem cat1_args : ∀ {as : List Value} {n i : Nat} {v : Value}, cat1 as → as[i]? = some v → (n + i, v) ∈ lv_args n as ∧ v.category = 1
  | [], _, _, _, _, h => by simp at h
  | w :: r, n, 0, v, hc, h => by
    simp at h
    subst h
    exact ⟨List.mem_cons_self, hc.1⟩
  | w :: r, n, i + 1, v, hc, h => by
    have h1 := cat1_args (n := n + 1) (i := i) hc.2 (by simpa using h)
    refine ⟨List.mem_cons_of_mem _ ?_, h1.2⟩
    rw [if_neg (by rw [hc.1]; decide), show n + (i + 1) = n + 1 + i by omega]
    exact h1.1
theorem EN.cat {as : List Value} {n nL : Nat} (h : cat1 as) (hn : as.length ≤ nL) : EN as (as.map some ++ List.replicate n none) [] nL := by
  refine ⟨by rw [cat1_sl h]; exact hn, fun i v hi => ?_, fun q hq => by cases hq⟩
  have h2 : as[i]? = some v := by
    rw [List.getElem?_append] at hi
    split at hi
    · rw [List.getElem?_map] at hi
      cases ha : as[i]? with
      | none => rw [ha] at hi; cases hi
      | some w => rw [ha] at hi; simp at hi; rw [hi]
    · rw [List.getElem?_replicate] at hi
      split at hi <;> simp at hi
  have h3 := cat1_args (n := 0) h h2
  rw [Nat.zero_add] at h3
  exact h3
theorem Pcc.blind {G : Ctx} {as : List Value} {Γ : List Sh} {σ : Mem} : FrameBlind (Pcc G as Γ σ) := fun a U g mk h => h
section Cts
variable {G : Ctx} {M : Mth} {d mc ms : Nat} {as : List Value} {lv : List (Option Value)} {ll : List (Nat × Int64)} {Γ : List Sh} {σ : Mem} {Q : Option Value → List Sh → Mem → Prop}
theorem Ct.of (hy : plainName (my M).cls = true) (hh : mhh M = some []) (he : EN as lv ll (mL M)) (k : Wq G M (Em G d mc ms Q) mc ms 0 lv ll [] Γ σ) : Ct G M d mc ms as Γ σ Q := by
  intro hok
  refine Met.ofW (cc := mcd M) (maxL := mL M) (ret := mrt M) (ws' := []) hy (by unfold mws; rw [hh]) ?_
  intro p e s m args below meth c s₁ B hml hP
  obtain ⟨rfl, hW, hbig, hout, hV⟩ := hP
  have C : Cx G M p s m meth c := ⟨hok, B.exec, B.bytes, B.returns, B.notSynchronized, hml, findClass_of_methodNamed B.named, (name_of_methodNamed B.named B.method).1, hW, hbig, hout, fun h9 e9 => by
    cases Option.some.inj (hh.symm.trans e9)
    obtain ⟨meth9, c9, h1, h2, -, -, -, -, h7, -⟩ := Cond.code_spec B.named (atoms_spec (ws := mws M) B.pre _ (by unfold mws; rw [hh]; exact List.mem_cons_self))
    cases Option.some.inj (h1.symm.trans B.method)
    cases Option.some.inj (h2.symm.trans (Stand.of_body B).code)
    exact List.eq_nil_iff_forall_not_mem.mpr fun x hx => by
      rw [Array.isEmpty_iff.mp h7] at hx
      cases hx⟩
  rw [lg_entry_eq]
  have hl0 := lv_entry as he.1
  exact k p e s m _ below meth c C s.heap [] 0 0 _ hV va_S.rf (by simp [eC, Em]) (by simp [eM, Em]) ⟨⟨hl0.1, hl0.2.1, fun q hq => by
    rcases List.mem_append.mp hq with h | h
    · exact hl0.2.2 q (he.2.1 _ _ (asc_mem.mp h)).1
    · obtain ⟨q0, h0, e0⟩ := List.mem_map.mp h
      cases e0
      exact hl0.2.2 _ (he.2.2 q0 h0)⟩, fun i v h => (he.2.1 i v h).2⟩
end Cts
/-! returns -/
section Rets
variable {G : Ctx} {M : Mth} {d mc ms bc bs pc : Nat} {lv : List (Option Value)} {ll : List (Nat × Int64)} {Γ : List Sh} {σ : Mem} {Q : Option Value → List Sh → Mem → Prop}
theorem x_ireturn {ty : FieldType} {v : Int32} (hd : decode (mcd M) pc = .ok (.ireturn, 1)) (hr : mrt M = some ty) (hn : narrow ty (.int v) = .int v) (hQ : Q (some (.int v)) Γ σ) : Wq G M (Em G d mc ms Q) bc bs pc lv ll [.int v] Γ σ := by
  intro p e s m args below meth c C H locs cells slots ls hV hS h1 h2 hl
  refine W.widen (k := mc) (n := ms) (by simp [eC, Em] at h1; omega) (by simp [eM, Em] at h2; omega) ?_
  exact W.zret C.exec C.code (C.ret.trans hr) hn (fun t ht hW => ⟨_, Γ, σ, rfl, hQ, by rw [ht]; exact hV, hS.F ht⟩) hS.2.2 hd C.locks
theorem x_lreturn {v : Int64} (hd : decode (mcd M) pc = .ok (.lreturn, 1)) (hr : mrt M = some .long) (hQ : Q (some (.long v)) Γ σ) : Wq G M (Em G d mc ms Q) bc bs pc lv ll [.long v] Γ σ := by
  intro p e s m args below meth c C H locs cells slots ls hV hS h1 h2 hl
  refine W.widen (k := mc) (n := ms) (by simp [eC, Em] at h1; omega) (by simp [eM, Em] at h2; omega) ?_
  exact W.lret C.exec C.code (C.ret.trans hr) (fun t ht hW => ⟨_, Γ, σ, rfl, hQ, by rw [ht]; exact hV, hS.F ht⟩) hS.2.2 hd C.locks
theorem x_return (hd : decode (mcd M) pc = .ok (.return_, 1)) (hr : mrt M = none) (hQ : Q none Γ σ) : Wq G M (Em G d mc ms Q) bc bs pc lv ll [] Γ σ := by
  intro p e s m args below meth c C H locs cells slots ls hV hS h1 h2 hl
  refine W.widen (k := mc) (n := ms) (by simp [eC, Em] at h1; omega) (by simp [eM, Em] at h2; omega) ?_
  exact W.vret C.exec C.code (C.ret.trans hr) (fun t ht hW => ⟨_, Γ, σ, rfl, hQ, by rw [ht]; exact hV, hS.F ht⟩) hS.2.2 hd C.locks
theorem x_areturn0 {rt : FieldType} {v : Value} (hd : decode (mcd M) pc = .ok (.areturn, 1)) (hr : mrt M = some rt) (hrt : (∃ n, rt = .object n) ∨ ∃ t, rt = .array t) (hv : v = .null ∨ ∃ a, v = .ref a) (hQ : Q (some v) Γ σ) : Wq G M (Em G d mc ms Q) bc bs pc lv ll [v] Γ σ := by
  intro p e s m args below meth c C H locs cells slots ls hV hS h1 h2 hl
  refine W.widen (k := mc) (n := ms) (by simp [eC, Em] at h1; omega) (by simp [eM, Em] at h2; omega) ?_
  exact W.aret C.exec C.code (C.ret.trans hr) hrt hv (fun t ht hW => ⟨_, Γ, σ, rfl, hQ, by rw [ht]; exact hV, hS.F ht⟩) hS.2.2 hd C.locks
theorem x_areturn {n : String} {k : Nat} (hd : decode (mcd M) pc = .ok (.areturn, 1)) (hr : mrt M = some (.object n)) (hQ : Q (some (rf G k)) Γ σ) : Wq G M (Em G d mc ms Q) bc bs pc lv ll [rf G k] Γ σ := x_areturn0 hd hr (Or.inl ⟨n, rfl⟩) (Or.inr ⟨_, rfl⟩) hQ
theorem x_areturnN {n : String} (hd : decode (mcd M) pc = .ok (.areturn, 1)) (hr : mrt M = some (.object n)) (hQ : Q (some .null) Γ σ) : Wq G M (Em G d mc ms Q) bc bs pc lv ll [.null] Γ σ := x_areturn0 hd hr (Or.inl ⟨n, rfl⟩) (Or.inl rfl) hQ
end Rets
