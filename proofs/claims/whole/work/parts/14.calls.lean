/-! calls -/
theorem Cx.g {G : Ctx} {M : Mth} {p : Program} {s : State} {m : MethodId} {meth : Method} {c : Code} (C : Cx G M p s m meth c) {args : Array Value} {w : Cond} (h : gd w) : w.before args s = true := C.wd h.1 h.2
theorem Cx.gw {G : Ctx} {M : Mth} {p : Program} {s : State} {m : MethodId} {meth : Method} {c : Code} (C : Cx G M p s m meth c) {w : Cond} (h : gd w) : ∀ (a' : Array Value) (U : State), s.WarmedH U.vm → w.before a' U = true := fun a' U hW => word_at hW (good_of_word h.2) (C.g (args := #[]) h)
def RoomE (E : Ev) (d : Nat) : Prop := d + 1 ≤ (eR E).frames ∧ 40 * d + 40 ≤ (eR E).locals ∧ eC E ≤ (eR E).cells ∧ eM E ≤ (eR E).slots
theorem RoomE.m {G : Ctx} {d mc ms : Nat} {Q : Option Value → List Sh → Mem → Prop} : RoomE (Em G (d + 1) mc ms Q) d := by
  refine ⟨?_, ?_, Nat.le_refl _, Nat.le_refl _⟩
  · show d + 1 ≤ d + 1; omega
  · show 40 * d + 40 ≤ 40 * (d + 1); omega
theorem len_of {y : MethodName} {n : Nat} (h : (parseMethodDescriptor y.desc).map (fun d => d.parameters.length) = some n) : ∀ sig, parseMethodDescriptor y.desc = some sig → n = sig.parameters.length := by
  intro sig hs
  rw [hs] at h
  exact (Option.some.inj h).symm
section Calls0
variable {G : Ctx} {M M' : Mth} {E : Ev} {d mc ms bc bs pc idx n k ci : Nat} {lv : List (Option Value)} {ll : List (Nat × Int64)} {st as : List Value} {Γ : List Sh} {σ : Mem}
variable {p : Program} {e : Env} {s : State} {m : MethodId} {args : Array Value} {below : List Frame} {meth : Method} {c : Code} {H : Heap} {locs : List Loc} {cells slots : Nat} {ls : Array Slot}
theorem pre_of (C : Cx G M p s m meth c) (hV : VH G Γ σ H) (hS : va_S (fre G) s.heap H locs) : ∀ U : State, U.heap = H → s.WarmedH U.vm → Pcc G as Γ σ as.toArray U := by
  intro U hU hW
  refine ⟨rfl, State.WarmedH.trans C.warm hW, by rw [hU, hV.1]; exact Nat.le_add_right _ _, fun q hq => ?_, by rw [hU]; exact hV⟩
  rw [hU, hS.2.1 q (Nat.lt_of_lt_of_le hq C.big) (fun h => absurd h (Nat.not_le.mpr hq))]
  exact C.out q hq
theorem rcv_of (C : Cx G M p s m meth c) (hV : VH G Γ σ H) {r : vw_C} (hc : vwCl[ci]? = some r) (hs : Γ[k]? = some (0, ci)) : ∃ cellB : Cell, H[cB G + k]? = some cellB ∧ cellB.vm.isStatics = false ∧ s.vm.findClass r.1 = some cellB.cls := by
  obtain ⟨r', hr, cell, q1, q2, q3, q4⟩ := hV.2 k _ hs
  exact ⟨cell, q1, by rw [q3]; rfl, by rw [q2]; exact (C.K.1 ci _ hc).2.1⟩
theorem go_run {Q' : Option Value → List Sh → Mem → Prop} {a : Array Value} {st0 : List Value} (C : Cx G M p s m meth c) (hS : va_S (fre G) s.heap H locs) (h1 : cells + (bc + mc) ≤ eC E) (h2 : slots + (bs + ms) ≤ eM E) (hl : lvR ls (mL M) lv ll)
    (hr : va_Run p (cL G) e (eR E) s m args below meth c H locs cells slots mc ms (F0 m pc ls st0) st (QC G Q' a) (fre G)) (hk : ∀ r Γ' σ', Q' r Γ' σ' → Wq G M E bc bs (pc + 3) lv ll (r.toList ++ st) Γ' σ') : W p (cL G) e (eR E) s m args below meth c H locs cells slots (eZ E below args s) (F0 m pc ls st0) := by
  intro T hT X
  obtain ⟨v, st₀, t, T', L, h0, X', hL, e1, e2, ⟨r, Γ', σ', hv, hq, hV', hz, hkp⟩, hst⟩ := hr T hT X
  cases hv
  rw [h0] at hz hkp
  have k3 : va_S (fre G) s.heap T'.heap (locs ++ L) := ⟨Nat.le_trans hS.1 (by rw [e1]; exact hz), fun q g1 g2 => by rw [e1, hkp q (Nat.lt_of_lt_of_le g1 hS.1) g2]; exact hS.2.1 q g1 g2, fun q hq2 => by
    rcases List.mem_append.mp hq2 with h | h
    · exact hS.2.2 q h
    · exact hL q h⟩
  obtain ⟨t2, a1, b1⟩ := hk v Γ' σ' hq p e s m args below meth c C T'.heap (locs ++ L) (cells + mc) (slots + ms) ls (by rw [e1]; exact hV') k3 (by omega) (by omega) hl T' rfl X'
  exact ⟨t2, hst t2 a1, b1⟩
theorem cb_of (C : Cx G M p s m meth c) (hL : LK M' n) (hR : RoomE E d) (hl : (Cond.methodLink (my M).cls idx (my M')).before args s = true) : CallB (eR E) s args (my M).cls idx (my M') (mcd M') (mL M') (mrt M') (mws M') (RM d mc ms) mc ms n := by
  obtain ⟨c1, c2, c3, c4, c5, c6⟩ := hL
  refine ⟨rfl, rfl, hR.1, ?_, ?_, by rw [c5]; exact List.mem_cons_self, C.g c1, C.g c2, c3, len_of c4, hl⟩
  · have := hR.2.1
    show 8 + (mL M' + 11) + 40 * d ≤ (eR E).locals
    omega
  · rw [c5]
    intro w hw
    rw [List.mem_singleton.mp hw]
    exact C.gw c1
end Calls0
section Calls1
variable {G : Ctx} {M M' : Mth} {E : Ev} {d mc ms bc bs pc idx n k ci : Nat} {lv : List (Option Value)} {ll : List (Nat × Int64)} {st as : List Value} {Γ : List Sh} {σ : Mem}
/-- a method's call, by the class that its name stands in -/
theorem x_callVg {r : vw_C} (hd : decode (mcd M) pc = .ok (.invokevirtual idx, 3)) (hL : LK M' n) (hl : gd (.methodLink (my M).cls idx (my M'))) (hi : gd (.instanceMethod (my M'))) (hc : vwCl[ci]? = some r) (hsel : gd (.selects r.1 (my M') (my M'))) (hs : Γ[k]? = some (0, ci)) (hn : as.length = n) (hR : RoomE E d) (hcat : (st.map fun v => v.category).sum ≤ 8)
    (hC : Ct G M' d mc ms (rf G k :: as) Γ σ (fun r Γ' σ' => Wq G M E bc bs (pc + 3) lv ll (r.toList ++ st) Γ' σ')) : Wq G M E (bc + mc) (bs + ms) pc lv ll (as.reverse ++ rf G k :: st) Γ σ := by
  intro p e s m args below meth c C H locs cells slots ls hV hS h1 h2 hlv
  refine go_run C hS h1 h2 hlv (va_runV (Ts := []) (n := n) (b := cB G + k) (As := as) (rest := st) ⟨C.exec, C.code, C.maxL, C.own, fun w h => by cases h⟩ (hC C.ok) ⟨cb_of C hL hR (C.g hl), C.g hi, C.g hsel⟩ ⟨Pcc.blind, rcv_of C hV hc hs, pre_of C hV hS⟩ rfl hn hlv.1.1 rfl (lv_room hcat) hd ⟨?_, ?_⟩) (fun _ _ _ h => h)
  · have := hR.2.2.1; omega
  · have := hR.2.2.2; omega
theorem x_callSg (hd : decode (mcd M) pc = .ok (.invokestatic idx, 3)) (hL : LK M' n) (hl : gd (.methodLink (my M).cls idx (my M'))) (hi : gd (.static (my M'))) (hn : as.length = n) (hR : RoomE E d) (hcat : (st.map fun v => v.category).sum ≤ 8)
    (hC : Ct G M' d mc ms as Γ σ (fun r Γ' σ' => Wq G M E bc bs (pc + 3) lv ll (r.toList ++ st) Γ' σ')) : Wq G M E (bc + mc) (bs + ms) pc lv ll (as.reverse ++ st) Γ σ := by
  intro p e s m args below meth c C H locs cells slots ls hV hS h1 h2 hlv
  refine go_run C hS h1 h2 hlv (va_runS (Ts := []) (n := n) (As := as) (rest := st) ⟨C.exec, C.code, C.maxL, C.own, fun w h => by cases h⟩ (hC C.ok) ⟨cb_of C hL hR (C.g hl), C.g hi⟩ ⟨Pcc.blind, pre_of C hV hS⟩ rfl hn hlv.1.1 rfl (lv_room hcat) hd ⟨?_, ?_⟩) (fun _ _ _ h => h)
  · have := hR.2.2.1; omega
  · have := hR.2.2.2; omega
theorem x_callIg (hd : decode (mcd M) pc = .ok (.invokespecial idx, 3)) (hL : LK M' n) (hr : mrt M' = none) (hl : gd (.methodLink (my M).cls idx (my M'))) (hi : gd (.instanceMethod (my M'))) (hnm : (my M').name = "<init>") (hn : as.length = n) (hR : RoomE E d) (hcat : (st.map fun v => v.category).sum ≤ 8)
    (hC : Ct G M' d mc ms (rf G k :: as) Γ σ (fun r Γ' σ' => Wq G M E bc bs (pc + 3) lv ll (r.toList ++ st) Γ' σ')) : Wq G M E (bc + mc) (bs + ms) pc lv ll (as.reverse ++ rf G k :: st) Γ σ := by
  intro p e s m args below meth c C H locs cells slots ls hV hS h1 h2 hlv
  refine go_run C hS h1 h2 hlv (va_runI (Ts := []) (n := n) (b := cB G + k) (As := as) (rest := st) (maxL := mL M') (bytes := mcd M') ⟨C.exec, C.code, C.maxL, C.own, fun w h => by cases h⟩ (hC C.ok) ⟨by rw [← hr]; exact cb_of C hL hR (C.g hl), hnm, C.g hi⟩ ⟨Pcc.blind, pre_of C hV hS⟩ rfl hn hlv.1.1 rfl (lv_room hcat) hd ⟨?_, ?_⟩) (fun _ _ _ h => h)
  · have := hR.2.2.1; omega
  · have := hR.2.2.2; omega
end Calls1
