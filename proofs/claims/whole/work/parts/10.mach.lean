/-! shapes, memory, contexts -/
abbrev Sh : Type := Nat × Nat
abbrev Mem : Type := (Nat → Nat → Int32) × (Nat → Nat → Option Nat) × (Nat → Nat → Int64)
abbrev Ctx : Type := Launch × State × Array Value × va_G × (Nat → ClassId)
abbrev Ev : Type := Room × Nat × Nat × (List Frame → Array Value → State → State → Prop)
def cL (G : Ctx) : Launch := G.1
def cS (G : Ctx) : State := G.2.1
def cA0 (G : Ctx) : Array Value := G.2.2.1
def cD (G : Ctx) : va_G := G.2.2.2.1
def cCA (G : Ctx) : Nat → ClassId := G.2.2.2.2
def cB (G : Ctx) : Nat := (cS G).heap.size
def rf (G : Ctx) (k : Nat) : Value := .ref (cB G + k)
def ov (G : Ctx) : Option Nat → Value
  | none => .null
  | some k => rf G k
theorem ov_rf (G : Ctx) (o : Option Nat) : ov G o = va_rf (o.map (cB G + ·)) := by cases o <;> rfl
theorem ov_or (G : Ctx) (o : Option Nat) : ov G o = .null ∨ ∃ a, ov G o = .ref a := by
  cases o with
  | none => exact Or.inl rfl
  | some k => exact Or.inr ⟨_, rfl⟩
def wI (σ : Mem) (a j : Nat) (v : Int32) : Mem := (fun k i => if k = a ∧ i = j then v else σ.1 k i, σ.2)
def wR (σ : Mem) (a j : Nat) (v : Option Nat) : Mem := (σ.1, fun k i => if k = a ∧ i = j then v else σ.2.1 k i, σ.2.2)
def wL (σ : Mem) (a j : Nat) (v : Int64) : Mem := (σ.1, σ.2.1, fun k i => if k = a ∧ i = j then v else σ.2.2 k i)
/-- a field's value by its type -/
def fval (G : Ctx) (mi : Nat → Int32) (mr : Nat → Option Nat) (ml : Nat → Int64) (j : Nat) (ty : FieldType) : Value := match ty with
  | .object _ => ov G (mr j)
  | .array _ => ov G (mr j)
  | .long => .long (ml j)
  | _ => .int (mi j)
def cellOK (G : Ctx) (mi : Nat → Int32) (mr : Nat → Option Nat) (ml : Nat → Int64) (k : Nat) (sh : Sh) (H : Heap) : Prop := match sh with
  | (0, ci) => ∃ r : vw_C, vwCl[ci]? = some r ∧ t_OB (cB G + k) ((cD G).1 ci) r.2.2 ((cD G).2 ci) H (fun j => fval G mi mr ml j (tyOf ci j))
  | (1, n) => H[cB G + k]? = some (arrV (cCA G 1) n (fun i => .int (mi i)))
  | (2, n) => H[cB G + k]? = some (arrV (cCA G 2) n (fun i => .int (mi i)))
  | (3, n) => H[cB G + k]? = some (arrV (cCA G 3) n (fun i => .long (ml i)))
  | (t, n) => t < 9 → H[cB G + k]? = some (arrV (cCA G t) n (fun i => ov G (mr i)))
def VH (G : Ctx) (Γ : List Sh) (σ : Mem) (H : Heap) : Prop := H.size = cB G + Γ.length ∧ ∀ (k : Nat) (sh : Sh), Γ[k]? = some sh → cellOK G (σ.1 k) (σ.2.1 k) (σ.2.2 k) k sh H
def Out (G : Ctx) (H : Heap) : Prop := ∀ q : Nat, q < cB G → H[q]? = (cS G).heap[q]?
def fre (G : Ctx) : Nat → Prop := fun q => cB G ≤ q
theorem cellOK.kept {G : Ctx} {mi : Nat → Int32} {mr : Nat → Option Nat} {ml : Nat → Int64} {k : Nat} {sh : Sh} {H H1 : Heap} (h : cellOK G mi mr ml k sh H) (hq : H1[cB G + k]? = H[cB G + k]?) : cellOK G mi mr ml k sh H1 := by
  unfold cellOK at h ⊢
  split at h
  · obtain ⟨r, h1, h2⟩ := h
    exact ⟨r, h1, h2.kept hq⟩
  · rw [hq]; exact h
  · rw [hq]; exact h
  · rw [hq]; exact h
  · rw [hq]; exact h
theorem VH.upd {G : Ctx} {Γ : List Sh} {σ σ' : Mem} {H H1 : Heap} {a : Nat} {sh : Sh} (hV : VH G Γ σ H) (hk : Γ[a]? = some sh) (h1 : ∀ k, k ≠ a → σ'.1 k = σ.1 k) (h2 : ∀ k, k ≠ a → σ'.2.1 k = σ.2.1 k) (h3 : ∀ k, k ≠ a → σ'.2.2 k = σ.2.2 k)
    (hz : H1.size = H.size) (ho : ∀ q : Nat, q ≠ cB G + a → H1[q]? = H[q]?) (hc : cellOK G (σ'.1 a) (σ'.2.1 a) (σ'.2.2 a) a sh H1) : VH G Γ σ' H1 := by
  refine ⟨hz.trans hV.1, fun k s hs => ?_⟩
  by_cases e : k = a
  · subst e
    cases Option.some.inj (hk.symm.trans hs)
    exact hc
  · rw [h1 k e, h2 k e, h3 k e]
    exact (hV.2 k s hs).kept (ho _ (by omega))
/-! locals: by number; values of two words beside them -/
def asc (lv : List (Option Value)) : List (Nat × Value) := (List.range lv.length).filterMap (fun i => (lv[i]?.join).map (fun v => (i, v)))
theorem asc_mem {lv : List (Option Value)} {i : Nat} {v : Value} : (i, v) ∈ asc lv ↔ lv[i]? = some (some v) := by
  unfold asc
  rw [List.mem_filterMap]
  constructor
  · rintro ⟨j, -, hj⟩
    cases h : lv[j]? with
    | none => rw [h] at hj; cases hj
    | some o =>
      cases o with
      | none => rw [h] at hj; cases hj
      | some w =>
        rw [h] at hj
        simp at hj
        obtain ⟨rfl, rfl⟩ := hj
        exact h
  · intro h
    refine ⟨i, List.mem_range.mpr (List.getElem?_eq_some_iff.mp h).1, ?_⟩
    rw [h]
    rfl
def lal (ll : List (Nat × Int64)) : List (Nat × Value) := ll.map (fun q => (q.1, .long q.2))
def lvR (ls : Array Slot) (nL : Nat) (lv : List (Option Value)) (ll : List (Nat × Int64)) : Prop := lv_has ls nL (asc lv ++ lal ll) ∧ ∀ (i : Nat) (v : Value), lv[i]? = some (some v) → v.category = 1
theorem lvR.at {ls : Array Slot} {nL : Nat} {lv : List (Option Value)} {ll : List (Nat × Int64)} (h : lvR ls nL lv ll) {i : Nat} {v : Value} (hi : lv[i]? = some (some v)) : ls[i]? = some (.val v) := h.1.2.2 (i, v) (List.mem_append_left _ (asc_mem.mpr hi))
theorem lvR.atL {ls : Array Slot} {nL : Nat} {lv : List (Option Value)} {ll : List (Nat × Int64)} (h : lvR ls nL lv ll) {i : Nat} {x : Int64} (hi : (i, x) ∈ ll) : ls[i]? = some (.val (.long x)) := h.1.2.2 (i, .long x) (List.mem_append_right _ (List.mem_map.mpr ⟨(i, x), hi, rfl⟩))
theorem lvR.put {ls : Array Slot} {nL : Nat} {lv : List (Option Value)} {ll : List (Nat × Int64)} (hc : ∀ (i : Nat) (v : Value), lv[i]? = some (some v) → v.category = 1) {i : Nat} {v : Value} (hv : v.category = 1) (hll : ll.all (fun q => !(q.1 == i) && !(q.1 + 1 == i)) = true)
    (h : lv_has ls nL ((i, v) :: (asc lv ++ lal ll).filter (fun q => !(q.1 == i) && !(q.1 + 1 == i && q.2.category == 2)))) : lvR ls nL (lv.set i (some v)) ll := by
  have key : ∀ (j : Nat) (w : Value), (lv.set i (some v))[j]? = some (some w) → (j = i ∧ w = v) ∨ (j ≠ i ∧ lv[j]? = some (some w)) := by
    intro j w hj
    rw [List.getElem?_set] at hj
    by_cases e : i = j
    · rw [if_pos e] at hj
      split at hj
      · cases hj; exact Or.inl ⟨e.symm, rfl⟩
      · cases hj
    · rw [if_neg e] at hj
      exact Or.inr ⟨fun z => e z.symm, hj⟩
  refine ⟨⟨h.1, h.2.1, fun q hq => ?_⟩, fun j w hj => ?_⟩
  · obtain ⟨j, w⟩ := q
    rcases List.mem_append.mp hq with hq | hq
    · rcases key j w (asc_mem.mp hq) with ⟨rfl, rfl⟩ | ⟨hne, hj⟩
      · exact h.2.2 _ List.mem_cons_self
      · refine h.2.2 _ (List.mem_cons_of_mem _ (List.mem_filter.mpr ⟨List.mem_append_left _ (asc_mem.mpr hj), ?_⟩))
        have h1 := hc j w hj
        simp [hne, h1]
    · refine h.2.2 _ (List.mem_cons_of_mem _ (List.mem_filter.mpr ⟨List.mem_append_right _ hq, ?_⟩))
      obtain ⟨q0, hq0, e0⟩ := List.mem_map.mp hq
      have h1 := List.all_eq_true.mp hll q0 hq0
      cases e0
      simp at h1 ⊢
      exact ⟨h1.1, Or.inl h1.2⟩
  · rcases key j w hj with ⟨rfl, rfl⟩ | ⟨-, hj⟩
    · exact hv
    · exact hc j w hj
theorem lvR.putL {ls : Array Slot} {nL : Nat} {lv : List (Option Value)} {ll : List (Nat × Int64)} (hc : ∀ (i : Nat) (v : Value), lv[i]? = some (some v) → v.category = 1) {i : Nat} {x : Int64} (hll : ll.all (fun q => (q.1 == i) || (!(q.1 == i + 1) && !(q.1 + 1 == i))) = true)
    (h : lv_has ls nL ((i, .long x) :: (asc lv ++ lal ll).filter (fun q => !(q.1 == i) && (!(q.1 == i + 1) && !(q.1 + 1 == i && q.2.category == 2))))) : lvR ls nL ((lv.set i none).set (i + 1) none) ((i, x) :: ll.filter (fun q => !(q.1 == i))) := by
  have key : ∀ (j : Nat) (w : Value), ((lv.set i none).set (i + 1) none)[j]? = some (some w) → j ≠ i ∧ j ≠ i + 1 ∧ lv[j]? = some (some w) := by
    intro j w hj
    rw [List.getElem?_set] at hj
    by_cases e : i + 1 = j
    · rw [if_pos e] at hj
      split at hj <;> cases hj
    · rw [if_neg e, List.getElem?_set] at hj
      by_cases e2 : i = j
      · rw [if_pos e2] at hj
        split at hj <;> cases hj
      · rw [if_neg e2] at hj
        exact ⟨fun z => e2 z.symm, fun z => e z.symm, hj⟩
  refine ⟨⟨h.1, h.2.1, fun q hq => ?_⟩, fun j w hj => hc j w (key j w hj).2.2⟩
  obtain ⟨j, w⟩ := q
  rcases List.mem_append.mp hq with hq | hq
  · obtain ⟨h1, h2, h3⟩ := key j w (asc_mem.mp hq)
    refine h.2.2 _ (List.mem_cons_of_mem _ (List.mem_filter.mpr ⟨List.mem_append_left _ (asc_mem.mpr h3), ?_⟩))
    have h4 := hc j w h3
    simp [h1, h2, h4]
  · obtain ⟨q0, hq0, e0⟩ := List.mem_map.mp hq
    cases e0
    rcases List.mem_cons.mp hq0 with hq0 | hq0
    · subst hq0
      exact h.2.2 _ List.mem_cons_self
    · obtain ⟨g1, g2⟩ := List.mem_filter.mp hq0
      refine h.2.2 _ (List.mem_cons_of_mem _ (List.mem_filter.mpr ⟨List.mem_append_right _ (List.mem_map.mpr ⟨q0, g1, rfl⟩), ?_⟩))
      have h1 := List.all_eq_true.mp hll q0 g1
      simp at h1 g2 ⊢
      rcases h1 with h1 | h1
      · exact absurd h1 g2
      · exact ⟨g2, h1.1, Or.inl h1.2⟩
/-! contexts and the judgement -/
def eR (E : Ev) : Room := E.1
def eC (E : Ev) : Nat := E.2.1
def eM (E : Ev) : Nat := E.2.2.1
def eZ (E : Ev) : List Frame → Array Value → State → State → Prop := E.2.2.2
def EXc (G : Ctx) : Prop := (Jvm.Cond.and given_1 narrow_1).before (cA0 G) (cS G) = true ∧ (cL G).stackTraces = false
def OKc (G : Ctx) : Prop := (∀ w ∈ lw_tbl, w.before (cA0 G) (cS G) = true) ∧ va_K (cD G) vwCl (tysL (cCA G)) (cS G) ∧ EXc G
def Cx (G : Ctx) (M : Mth) (p : Program) (s : State) (m : MethodId) (meth : Method) (c : Code) : Prop :=
  OKc G ∧ p.tables.exec = Jvm.exec ∧ c.code = mcd M ∧ meth.sig.returnType = mrt M ∧ meth.locks = false ∧ c.maxLocals = mL M ∧ s.vm.findClass (my M).cls = some m.cls ∧ meth.name = (my M).name ∧ (cS G).WarmedH s.vm ∧ cB G ≤ s.heap.size ∧ Out G s.heap ∧ ∀ hh, mhh M = some hh → c.exceptionTable.toList = tableOf hh
section CXs
variable {G : Ctx} {M : Mth} {p : Program} {s : State} {m : MethodId} {meth : Method} {c : Code}
theorem Cx.ok (C : Cx G M p s m meth c) : OKc G := C.1
theorem Cx.exec (C : Cx G M p s m meth c) : p.tables.exec = Jvm.exec := C.2.1
theorem Cx.code (C : Cx G M p s m meth c) : c.code = mcd M := C.2.2.1
theorem Cx.ret (C : Cx G M p s m meth c) : meth.sig.returnType = mrt M := C.2.2.2.1
theorem Cx.locks (C : Cx G M p s m meth c) : meth.locks = false := C.2.2.2.2.1
theorem Cx.maxL (C : Cx G M p s m meth c) : c.maxLocals = mL M := C.2.2.2.2.2.1
theorem Cx.own (C : Cx G M p s m meth c) : s.vm.findClass (my M).cls = some m.cls := C.2.2.2.2.2.2.1
theorem Cx.name (C : Cx G M p s m meth c) : meth.name = (my M).name := C.2.2.2.2.2.2.2.1
theorem Cx.warm (C : Cx G M p s m meth c) : (cS G).WarmedH s.vm := C.2.2.2.2.2.2.2.2.1
theorem Cx.big (C : Cx G M p s m meth c) : cB G ≤ s.heap.size := C.2.2.2.2.2.2.2.2.2.1
theorem Cx.out (C : Cx G M p s m meth c) : Out G s.heap := C.2.2.2.2.2.2.2.2.2.2.1
theorem Cx.tab (C : Cx G M p s m meth c) : ∀ hh, mhh M = some hh → c.exceptionTable.toList = tableOf hh := C.2.2.2.2.2.2.2.2.2.2.2
theorem Cx.wd (C : Cx G M p s m meth c) {args : Array Value} {w : Cond} (hm : w ∈ lw_tbl) (hg : goodWord w = true) : w.before args s = true := word_at C.warm (good_of_word hg) (C.ok.1 w hm)
theorem Cx.K (C : Cx G M p s m meth c) : va_K (cD G) vwCl (tysL (cCA G)) s := va_K.moved C.warm.alike C.ok.2.1
end CXs
def Wq (G : Ctx) (M : Mth) (E : Ev) (bc bs pc : Nat) (lv : List (Option Value)) (ll : List (Nat × Int64)) (st : List Value) (Γ : List Sh) (σ : Mem) : Prop :=
  ∀ (p : Program) (e : Env) (s : State) (m : MethodId) (args : Array Value) (below : List Frame) (meth : Method) (c : Code), Cx G M p s m meth c → ∀ (H : Heap) (locs : List Loc) (cells slots : Nat) (ls : Array Slot), VH G Γ σ H → va_S (fre G) s.heap H locs → cells + bc ≤ eC E → slots + bs ≤ eM E → lvR ls (mL M) lv ll →
    W p (cL G) e (eR E) s m args below meth c H locs cells slots (eZ E below args s) (F0 m pc ls st)
section Lifts
variable {G : Ctx} {M : Mth} {E : Ev} {bc bs pc pc' pc2 : Nat} {lv lv' : List (Option Value)} {ll ll' : List (Nat × Int64)} {st st' st2 : List Value} {Γ : List Sh} {σ : Mem}
theorem Wq.lift (h : ∀ {p : Program} {e : Env} {R : Room} {s : State} {m : MethodId} {args : Array Value} {below : List Frame} {meth : Method} {c : Code} {H : Heap} {locs : List Loc} {cells slots : Nat} {Q : State → Prop} {ls : Array Slot}, p.tables.exec = Jvm.exec → c.code = mcd M → lvR ls (mL M) lv ll → W p (cL G) e R s m args below meth c H locs cells slots Q (F0 m pc' ls st') → W p (cL G) e R s m args below meth c H locs cells slots Q (F0 m pc ls st))
    (k : Wq G M E bc bs pc' lv ll st' Γ σ) : Wq G M E bc bs pc lv ll st Γ σ := fun p e s m args below meth c C H locs cells slots ls hV hS h1 h2 hl => h C.exec C.code hl (k p e s m args below meth c C H locs cells slots ls hV hS h1 h2 hl)
theorem Wq.lift2 {A B : Prop} (h : ∀ {p : Program} {e : Env} {R : Room} {s : State} {m : MethodId} {args : Array Value} {below : List Frame} {meth : Method} {c : Code} {H : Heap} {locs : List Loc} {cells slots : Nat} {Q : State → Prop} {ls : Array Slot}, p.tables.exec = Jvm.exec → c.code = mcd M → lvR ls (mL M) lv ll → (A → W p (cL G) e R s m args below meth c H locs cells slots Q (F0 m pc' ls st')) → (B → W p (cL G) e R s m args below meth c H locs cells slots Q (F0 m pc2 ls st2)) → W p (cL G) e R s m args below meth c H locs cells slots Q (F0 m pc ls st))
    (k1 : A → Wq G M E bc bs pc' lv ll st' Γ σ) (k2 : B → Wq G M E bc bs pc2 lv ll st2 Γ σ) : Wq G M E bc bs pc lv ll st Γ σ := fun p e s m args below meth c C H locs cells slots ls hV hS h1 h2 hl => h C.exec C.code hl (fun a => k1 a p e s m args below meth c C H locs cells slots ls hV hS h1 h2 hl) (fun b => k2 b p e s m args below meth c C H locs cells slots ls hV hS h1 h2 hl)
theorem Wq.liftL (h : ∀ {p : Program} {e : Env} {R : Room} {s : State} {m : MethodId} {args : Array Value} {below : List Frame} {meth : Method} {c : Code} {H : Heap} {locs : List Loc} {cells slots : Nat} {Q : State → Prop} {ls : Array Slot}, p.tables.exec = Jvm.exec → c.code = mcd M → lvR ls (mL M) lv ll → (∀ ls' : Array Slot, lvR ls' (mL M) lv' ll' → W p (cL G) e R s m args below meth c H locs cells slots Q (F0 m pc' ls' st')) → W p (cL G) e R s m args below meth c H locs cells slots Q (F0 m pc ls st))
    (k : Wq G M E bc bs pc' lv' ll' st' Γ σ) : Wq G M E bc bs pc lv ll st Γ σ := fun p e s m args below meth c C H locs cells slots ls hV hS h1 h2 hl => h C.exec C.code hl (fun ls' hl' => k p e s m args below meth c C H locs cells slots ls' hV hS h1 h2 hl')
/-- fewer known locals -/
theorem Wq.sub (hs : ∀ (i : Nat) (v : Value), lv'[i]? = some (some v) → lv[i]? = some (some v)) (hsl : ∀ q ∈ ll', q ∈ ll) (k : Wq G M E bc bs pc lv' ll' st Γ σ) : Wq G M E bc bs pc lv ll st Γ σ := fun p e s m args below meth c C H locs cells slots ls hV hS h1 h2 hl =>
  k p e s m args below meth c C H locs cells slots ls hV hS h1 h2 ⟨⟨hl.1.1, hl.1.2.1, fun q hq => by
    rcases List.mem_append.mp hq with h | h
    · exact hl.1.2.2 q (List.mem_append_left _ (asc_mem.mpr (hs _ _ (asc_mem.mp h))))
    · obtain ⟨q0, h0, e0⟩ := List.mem_map.mp h
      exact hl.1.2.2 q (List.mem_append_right _ (List.mem_map.mpr ⟨q0, hsl q0 h0, e0⟩))⟩, fun i v h => hl.2 i v (hs i v h)⟩
end Lifts
theorem x_iinc0 {p : Program} {l : Launch} {e : Env} {R : Room} {s : State} {m : MethodId} {args : Array Value} {below : List Frame} {meth : Method} {c : Code} {H : Heap} {locs : List Loc} {cells slots : Nat} {Q : State → Prop} {cc : ByteArray} {pc nL i : Nat} {ls : Array Slot} {st : List Value} {lv : List (Option Value)} {ll : List (Nat × Int64)} {n : Int} {x v : Int32} (hx : p.tables.exec = Jvm.exec) (hb : c.code = cc) (hd : decode cc pc = .ok (.iinc i n, 3)) (hl : lvR ls nL lv ll) (hv : lv[i]? = some (some (.int x))) (hn : x + Int32.ofInt n = v) (hi : i < nL)
    (kk : ∀ ls' : Array Slot, lv_has ls' nL ((i, Value.int v) :: (asc lv ++ lal ll).filter (fun q => !(q.1 == i) && !(q.1 + 1 == i && q.2.category == 2))) → W p l e R s m args below meth c H locs cells slots Q (F0 m (pc + 3) ls' st)) : W p l e R s m args below meth c H locs cells slots Q (F0 m pc ls st) := by
  obtain ⟨k, hk⟩ := List.getElem?_of_mem (List.mem_append_left (lal ll) (asc_mem.mpr hv))
  exact lv_iinc hx hb hd hl.1 hk hn hi rfl kk
