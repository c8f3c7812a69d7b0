def my (M : Mth) : MethodName := M.1
def mcd (M : Mth) : ByteArray := M.2.1
def mL (M : Mth) : Nat := M.2.2.1
def mrt (M : Mth) : Option FieldType := M.2.2.2.1
def mhh (M : Mth) : Option (List (Nat × Nat × Nat × Nat)) := M.2.2.2.2
def gd (w : Cond) : Prop := w ∈ lw_tbl ∧ goodWord w = true
def mws (M : Mth) : List Cond := match mhh M with
  | some (h :: t) => [.codeWith (my M) (mcd M) (mL M) (mrt M) (h :: t)]
  | _ => [.code (my M) (mcd M) (mL M) (mrt M)]
/-- what is fixed of a class's objects -/
def KC (ci : Nat) (C : String) (T : u_T) (N : Nat) : Prop := vwCl[ci]? = some (C, T, N) ∧ (∀ w ∈ u_ws C T N, w ∈ lw_tbl ∧ goodWord w = true) ∧ (∀ k, k < N → parseFieldDescriptor (T k).2.2.1 = some (tyOf ci k)) ∧ (∀ a, a < N → ∀ b, b < N → a ≠ b → (T a).2.1 ≠ (T b).2.1)
/-- a pool entry that names the field j of class ci -/
def FR (own : String) (idx ci j : Nat) : Prop := ∃ (C : String) (T : u_T) (N : Nat) (ref : String), KC ci C T N ∧ j < N ∧
  ((Cond.fieldLink own idx ref (T j).2.1 (T j).2.2.1 ∈ lw_tbl ∧ goodWord (Cond.fieldLink own idx ref (T j).2.1 (T j).2.2.1) = true) ∨ ∃ host, Cond.fieldLinkNest own idx ref (T j).2.1 (T j).2.2.1 host ∈ lw_tbl) ∧
  (ref = (T j).1 ∨ (Cond.sameField ref (T j).1 (T j).2.1 (T j).2.2.1 ∈ lw_tbl ∧ goodWord (Cond.sameField ref (T j).1 (T j).2.1 (T j).2.2.1) = true))
/-- .. and by which it may be written: it isn't final, or its class's own constructor writes it -/
def FW (own mname : String) (idx ci j : Nat) : Prop := ∃ (C : String) (T : u_T) (N : Nat) (ref : String), KC ci C T N ∧ j < N ∧
  (((T j).2.2.2 = false ∧ ((Cond.fieldLink own idx ref (T j).2.1 (T j).2.2.1 ∈ lw_tbl ∧ goodWord (Cond.fieldLink own idx ref (T j).2.1 (T j).2.2.1) = true) ∨ ∃ host, Cond.fieldLinkNest own idx ref (T j).2.1 (T j).2.2.1 host ∈ lw_tbl)) ∨
   ((T j).2.2.2 = true ∧ mname = "<init>" ∧ (T j).1 = own ∧ Cond.fieldLink own idx ref (T j).2.1 (T j).2.2.1 ∈ lw_tbl ∧ goodWord (Cond.fieldLink own idx ref (T j).2.1 (T j).2.2.1) = true)) ∧
  (ref = (T j).1 ∨ (Cond.sameField ref (T j).1 (T j).2.1 (T j).2.2.1 ∈ lw_tbl ∧ goodWord (Cond.sameField ref (T j).1 (T j).2.1 (T j).2.2.1) = true))
/-- a method without handlers, as the tables have it: n parameters -/
def LK (M : Mth) (n : Nat) : Prop := gd (.code (my M) (mcd M) (mL M) (mrt M)) ∧ gd (.initialized (my M).cls) ∧ ((my M).cls ≠ "java/lang/invoke/MethodHandle" ∧ (my M).cls ≠ "java/lang/invoke/VarHandle") ∧ (parseMethodDescriptor (my M).desc).map (fun d => d.parameters.length) = some n ∧ mws M = [.code (my M) (mcd M) (mL M) (mrt M)] ∧ mL M ≤ 21
