/-! fields -/
def isI : FieldType → Bool
  | .object _ => false
  | .array _ => false
  | .long => false
  | _ => true
def isR : FieldType → Bool
  | .object _ => true
  | .array _ => true
  | _ => false
theorem fval_I {G : Ctx} {mi : Nat → Int32} {mr : Nat → Option Nat} {ml : Nat → Int64} {j : Nat} {ty : FieldType} (h : isI ty = true) : fval G mi mr ml j ty = .int (mi j) := by
  cases ty <;> first | rfl | cases h
theorem fval_R {G : Ctx} {mi : Nat → Int32} {mr : Nat → Option Nat} {ml : Nat → Int64} {j : Nat} {ty : FieldType} (h : isR ty = true) : fval G mi mr ml j ty = ov G (mr j) := by
  cases ty <;> first | rfl | cases h
theorem fval_cg {G : Ctx} {mi mi' : Nat → Int32} {mr mr' : Nat → Option Nat} {ml ml' : Nat → Int64} {j : Nat} {ty : FieldType} (h1 : mi j = mi' j) (h2 : mr j = mr' j) (h3 : ml j = ml' j) : fval G mi mr ml j ty = fval G mi' mr' ml' j ty := by
  cases ty <;> simp only [fval, h1, h2, h3]
section Fields
variable {G : Ctx} {M : Mth} {E : Ev} {bc bs pc idx ci j k : Nat} {lv : List (Option Value)} {ll : List (Nat × Int64)} {st : List Value} {Γ : List Sh} {σ : Mem}
theorem x_get0 (hd : decode (mcd M) pc = .ok (.getfield idx, 3)) (hF : FR (my M).cls idx ci j) (hs : Γ[k]? = some (0, ci)) (kk : Wq G M E bc bs (pc + 3) lv ll (fval G (σ.1 k) (σ.2.1 k) (σ.2.2 k) j (tyOf ci j) :: st) Γ σ) : Wq G M E bc bs pc lv ll (rf G k :: st) Γ σ := by
  intro p e s m args below meth c C H locs cells slots ls hV hS h1 h2 hl
  obtain ⟨Cn, T, N, ref, ⟨hc, hw, hty, hnm⟩, hj, hlk, hsm⟩ := hF
  obtain ⟨r, hr, cell, q1, q2, q3, q4⟩ := hV.2 k _ hs
  cases Option.some.inj (hc.symm.trans hr)
  have hts : ∀ w ∈ u_ws Cn T N, w.before args s = true := fun w h => C.wd (hw w h).1 (hw w h).2
  obtain ⟨hSl, hfc, kC, hkC, hkind⟩ := C.K.1 ci _ hc
  obtain ⟨cf, kf, fi, f, hi, hsl⟩ := hSl j hj
  have hi' : s.fieldFound? ref (T j).2.1 (T j).2.2.1 = some (cf, kf, fi, f) := by
    rcases hsm with h | ⟨h, hg⟩
    · rw [h]; exact hi
    · exact u_same (C.wd (args := args) h hg) _ hi
  have hst := (u_facts hfc hkC (u_lays hts (fun _ h => h) hj) hi).1
  rcases hlk with ⟨h, hg⟩ | ⟨host, h⟩
  · refine W.getf C.exec C.code C.own (C.wd h hg) hi' hst q1 (by rw [q3]; exact fun h => by cases h) ?_ rfl rfl hd (kk p e s m args below meth c C H locs cells slots ls hV hS h1 h2 hl)
    rw [hsl, q4 j hj]
  · refine va_Wgetf C.exec C.code C.own (va_Nw.use rfl (va_Nw.warmF C.warm (va_Nw.of rfl (C.ok.1 _ h)))) hi' hst q1 (by rw [q3]; exact fun h => by cases h) ?_ rfl rfl hd (kk p e s m args below meth c C H locs cells slots ls hV hS h1 h2 hl)
    rw [hsl, q4 j hj]
theorem x_getI (hd : decode (mcd M) pc = .ok (.getfield idx, 3)) (hF : FR (my M).cls idx ci j) (ht : isI (tyOf ci j) = true) (hs : Γ[k]? = some (0, ci)) (kk : Wq G M E bc bs (pc + 3) lv ll (.int (σ.1 k j) :: st) Γ σ) : Wq G M E bc bs pc lv ll (rf G k :: st) Γ σ :=
  x_get0 hd hF hs (by rw [fval_I ht]; exact kk)
theorem x_getR (hd : decode (mcd M) pc = .ok (.getfield idx, 3)) (hF : FR (my M).cls idx ci j) (ht : isR (tyOf ci j) = true) (hs : Γ[k]? = some (0, ci)) {k2 : Nat} (hv : σ.2.1 k j = some k2) (kk : Wq G M E bc bs (pc + 3) lv ll (rf G k2 :: st) Γ σ) : Wq G M E bc bs pc lv ll (rf G k :: st) Γ σ :=
  x_get0 hd hF hs (by rw [fval_R ht, hv]; exact kk)
theorem x_getO (hd : decode (mcd M) pc = .ok (.getfield idx, 3)) (hF : FR (my M).cls idx ci j) (ht : isR (tyOf ci j) = true) (hs : Γ[k]? = some (0, ci)) (kn : σ.2.1 k j = none → Wq G M E bc bs (pc + 3) lv ll (.null :: st) Γ σ) (ks : ∀ k2, σ.2.1 k j = some k2 → Wq G M E bc bs (pc + 3) lv ll (rf G k2 :: st) Γ σ) : Wq G M E bc bs pc lv ll (rf G k :: st) Γ σ :=
  x_get0 hd hF hs (by
    rw [fval_R ht]
    cases h : σ.2.1 k j with
    | none => exact kn h
    | some k2 => exact ks k2 h)
theorem x_put0 {σ' : Mem} {v : Value} (hd : decode (mcd M) pc = .ok (.putfield idx, 3)) (hF : FW (my M).cls (my M).name idx ci j) (hn : narrow (tyOf ci j) v = v) (hf : fits (tyOf ci j) v = true) (hs : Γ[k]? = some (0, ci))
    (h1 : ∀ a, a ≠ k → σ'.1 a = σ.1 a) (h2 : ∀ a, a ≠ k → σ'.2.1 a = σ.2.1 a) (h3 : ∀ a, a ≠ k → σ'.2.2 a = σ.2.2 a)
    (hu : ∀ i, fval G (σ'.1 k) (σ'.2.1 k) (σ'.2.2 k) i (tyOf ci i) = if i = j then v else fval G (σ.1 k) (σ.2.1 k) (σ.2.2 k) i (tyOf ci i))
    (kk : Wq G M E bc bs (pc + 3) lv ll st Γ σ') : Wq G M E bc bs pc lv ll (v :: rf G k :: st) Γ σ := by
  intro p e s m args below meth c C H locs cells slots ls hV hS g1 g2 hl
  obtain ⟨Cn, T, N, ref, ⟨hc, hw, hty, hnm⟩, hj, hlk, hsm⟩ := hF
  obtain ⟨r, hr, cell, q1, q2, q3, q4⟩ := hV.2 k _ hs
  cases Option.some.inj (hc.symm.trans hr)
  have hts : ∀ w ∈ u_ws Cn T N, w.before args s = true := fun w h => C.wd (hw w h).1 (hw w h).2
  have hap := va_apart (own := (my M).cls) hts (fun _ h => h) (tyOf ci) hty hnm C.K hc
  obtain ⟨hSl, hfc, kC, hkC, hkind⟩ := C.K.1 ci _ hc
  obtain ⟨cf, kf, fi, f, hi, hsl⟩ := hSl j hj
  have hi' : s.fieldFound? ref (T j).2.1 (T j).2.2.1 = some (cf, kf, fi, f) := by
    rcases hsm with h | ⟨h, hg⟩
    · rw [h]; exact hi
    · exact u_same (C.wd (args := args) h hg) _ hi
  have hst := (u_facts hfc hkC (u_lays hts (fun _ h => h) hj) hi).1
  have hlay := hts _ (u_in_lay hj)
  unfold u_lay at hlay
  have fin : ∀ H' : Heap, H'[cB G + k]? = some (cell.setSlot f.slot v) → H'.size = H.size → (∀ q : Nat, q ≠ cB G + k → H'[q]? = H[q]?) → W p (cL G) e (eR E) s m args below meth c H' (locs ++ [⟨cB G + k, f.slot⟩]) cells slots (eZ E below args s) (F0 m (pc + 3) ls st) := by
    intro H' e1 e2 e3
    rw [hsl] at e1
    refine kk p e s m args below meth c C H' _ cells slots ls (hV.upd hs h1 h2 h3 e2 e3 ⟨_, hc, t_OB.to (V := updV (fun i => fval G (σ.1 k) (σ.2.1 k) (σ.2.2 k) i (tyOf ci i)) j v) ⟨_, e1, q2, q3, t_set q4 hap hj v⟩ (fun i _ => ?_)⟩) (hS.put e2 e3 (Nat.le_add_right _ _)) g1 g2 hl
    rw [hu i]
    rfl
  rcases hlk with ⟨hfin, hlk⟩ | ⟨hfin, hini, hdecl, h, hg⟩
  · rw [if_neg (by rw [hfin]; decide)] at hlay
    have h6 := u_store hfc hkC hkind hlay hi (hty j hj) hn hf
    rcases hlk with ⟨h, hg⟩ | ⟨host, h⟩
    · exact W.putK C.exec C.code (f := f) ⟨C.own, C.wd h hg, ⟨_, _, _, hi'⟩, hst⟩ (by rw [q2]; exact h6) q1 q3 (by rw [hsl]; exact k2_hasslot (q4 j hj)) rfl rfl hd fin
    · exact va_WputK C.exec C.code (f := f) C.own (va_Nw.use rfl (va_Nw.warmF C.warm (va_Nw.of rfl (C.ok.1 _ h)))) hi' hst (by rw [q2]; exact h6) q1 q3 (by rw [hsl]; exact k2_hasslot (q4 j hj)) rfl rfl hd fin
  · rw [if_pos hfin] at hlay
    have hcf : m.cls = cf := by
      obtain ⟨_, _, c', _, _, _, -, -, hf', -, -, -, hown2, -⟩ := Cond.laysFinal_spec hlay
      have e1 : c' = cf := by have := hi.symm.trans hf'; simp at this; exact this.1.symm
      rw [hdecl] at hown2
      rw [← e1]; exact Option.some.inj (C.own.symm.trans hown2)
    have h6 := u_fits hfc hkC hkind (Or.inr hlay) hi (hty j hj) hn hf
    exact W.putFinK C.exec C.code C.own (C.wd h hg) hi' hst hcf (C.name.trans hini) (by rw [q2]; exact h6) q1 q3 (by rw [hsl]; exact k2_hasslot (q4 j hj)) rfl rfl hd fin
theorem x_putI {x : Int32} (hd : decode (mcd M) pc = .ok (.putfield idx, 3)) (hF : FW (my M).cls (my M).name idx ci j) (ht : isI (tyOf ci j) = true) (hn : narrow (tyOf ci j) (.int x) = .int x) (hf : fits (tyOf ci j) (.int x) = true) (hs : Γ[k]? = some (0, ci)) (kk : Wq G M E bc bs (pc + 3) lv ll st Γ (wI σ k j x)) : Wq G M E bc bs pc lv ll (.int x :: rf G k :: st) Γ σ := by
  refine x_put0 hd hF hn hf hs (σ' := wI σ k j x) (fun a ha => funext fun i => ?_) (fun a ha => rfl) (fun a ha => rfl) (fun i => ?_) kk
  · simp [wI, ha]
  · by_cases e : i = j
    · subst e
      rw [if_pos rfl, fval_I ht]
      simp [wI]
    · rw [if_neg e]
      exact fval_cg (by simp [wI, e]) rfl rfl
theorem x_putQ {o : Option Nat} (hd : decode (mcd M) pc = .ok (.putfield idx, 3)) (hF : FW (my M).cls (my M).name idx ci j) (ht : isR (tyOf ci j) = true) (hs : Γ[k]? = some (0, ci)) (kk : Wq G M E bc bs (pc + 3) lv ll st Γ (wR σ k j o)) : Wq G M E bc bs pc lv ll (ov G o :: rf G k :: st) Γ σ := by
  have hnf : narrow (tyOf ci j) (ov G o) = ov G o ∧ fits (tyOf ci j) (ov G o) = true := by
    cases hty : tyOf ci j <;> rw [hty] at ht <;> first | (cases o <;> exact ⟨rfl, rfl⟩) | cases ht
  refine x_put0 hd hF hnf.1 hnf.2 hs (σ' := wR σ k j o) (fun a ha => rfl) (fun a ha => funext fun i => ?_) (fun a ha => rfl) (fun i => ?_) kk
  · simp [wR, ha]
  · by_cases e : i = j
    · subst e
      rw [if_pos rfl, fval_R ht]
      simp [wR]
    · rw [if_neg e]
      exact fval_cg rfl (by simp [wR, e]) rfl
theorem x_putR {k2 : Nat} (hd : decode (mcd M) pc = .ok (.putfield idx, 3)) (hF : FW (my M).cls (my M).name idx ci j) (ht : isR (tyOf ci j) = true) (hs : Γ[k]? = some (0, ci)) (kk : Wq G M E bc bs (pc + 3) lv ll st Γ (wR σ k j (some k2))) : Wq G M E bc bs pc lv ll (rf G k2 :: rf G k :: st) Γ σ := x_putQ (o := some k2) hd hF ht hs kk
theorem x_putN (hd : decode (mcd M) pc = .ok (.putfield idx, 3)) (hF : FW (my M).cls (my M).name idx ci j) (ht : isR (tyOf ci j) = true) (hs : Γ[k]? = some (0, ci)) (kk : Wq G M E bc bs (pc + 3) lv ll st Γ (wR σ k j none)) : Wq G M E bc bs pc lv ll (.null :: rf G k :: st) Γ σ := x_putQ (o := none) hd hF ht hs kk
end Fields
