/-! fewer known locals, by lists -/
def lsub : List (Option Value) → List (Option Value) → Prop
  | [], _ => True
  | none :: r, _ :: r' => lsub r r'
  | some v :: r, o :: r' => o = some v ∧ lsub r r'
  | _ :: _, [] => False
theorem lsub_at : ∀ {a b : List (Option Value)} {i : Nat} {v : Value}, lsub a b → a[i]? = some (some v) → b[i]? = some (some v)
  | [], _, _, _, _, h => by simp at h
  | none :: r, [], _, _, h, _ => h.elim
  | some _ :: r, [], _, _, h, _ => h.elim
  | none :: r, _ :: r', 0, _, _, h => by simp at h
  | none :: r, _ :: r', i + 1, v, h, h2 => by
    have := lsub_at (a := r) (b := r') (i := i) (v := v) h (by simpa using h2)
    simpa using this
  | some w :: r, o :: r', 0, v, h, h2 => by
    have h1 := h.1
    simp at h2 ⊢
    rw [h1, h2]
  | some w :: r, o :: r', i + 1, v, h, h2 => by
    have := lsub_at (a := r) (b := r') (i := i) (v := v) h.2 (by simpa using h2)
    simpa using this
theorem Wq.fg {G : Ctx} {M : Mth} {E : Ev} {bc bs pc : Nat} {lv lv' : List (Option Value)} {ll : List (Nat × Int64)} {st : List Value} {Γ : List Sh} {σ : Mem} (k : Wq G M E bc bs pc lv' ll st Γ σ) (h : lsub lv' lv) : Wq G M E bc bs pc lv ll st Γ σ := Wq.sub (fun _ _ => lsub_at h) (fun _ h => h) k
theorem Wq.fgl {G : Ctx} {M : Mth} {E : Ev} {bc bs pc : Nat} {lv lv' : List (Option Value)} {ll ll' : List (Nat × Int64)} {st : List Value} {Γ : List Sh} {σ : Mem} (k : Wq G M E bc bs pc lv' ll' st Γ σ) (h : lsub lv' lv) (h2 : ∀ q ∈ ll', q ∈ ll) : Wq G M E bc bs pc lv ll st Γ σ := Wq.sub (fun _ _ => lsub_at h) h2 k
