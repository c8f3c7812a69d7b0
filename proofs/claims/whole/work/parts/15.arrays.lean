/-! arrays -/
theorem tysL_at {CA : Nat → ClassId} {t : Nat} (h1 : 1 ≤ t) (h2 : t < NTY) : (tysL CA)[t - 1]? = some (CA t, ctyp t) := by
  have h2 : t < 6 := h2
  unfold tysL
  rw [List.getElem?_map, List.getElem?_range (by omega)]
  show some (CA (t - 1 + 1), ctyp (t - 1 + 1)) = _
  rw [Nat.sub_add_cancel h1]
theorem Cx.arr {G : Ctx} {M : Mth} {p : Program} {s : State} {m : MethodId} {meth : Method} {c : Code} (C : Cx G M p s m meth c) {t : Nat} (h1 : 1 ≤ t) (h2 : t < NTY) : ArrOfT s (cCA G t) (ctyp t) ∧ va_RA s (cCA G t) (ctyp t) := C.K.2 _ _ (tysL_at h1 h2)
theorem cellOK.arr {G : Ctx} {mi : Nat → Int32} {mr : Nat → Option Nat} {ml : Nat → Int64} {k t n : Nat} {H : Heap} (h : cellOK G mi mr ml k (t, n) H) (h1 : 1 ≤ t) (h2 : t < 9) : ∃ f, H[cB G + k]? = some (arrV (cCA G t) n f) := by
  unfold cellOK at h
  split at h
  · next e => cases e; omega
  · next e => cases e; exact ⟨_, h⟩
  · next e => cases e; exact ⟨_, h⟩
  · next e => cases e; exact ⟨_, h⟩
  · next e => cases e; exact ⟨_, h h2⟩
theorem cellOK.q {G : Ctx} {mi : Nat → Int32} {mr : Nat → Option Nat} {ml : Nat → Int64} {k t n : Nat} {H : Heap} (h1 : 4 ≤ t) (h2 : t < 9) : cellOK G mi mr ml k (t, n) H ↔ H[cB G + k]? = some (arrV (cCA G t) n (fun i => ov G (mr i))) := by
  match t, h1 with
  | t + 4, _ => exact ⟨fun h => h h2, fun h _ => h⟩
section Arrays
variable {G : Ctx} {M : Mth} {E : Ev} {bc bs pc k t n : Nat} {lv : List (Option Value)} {ll : List (Nat × Int64)} {st : List Value} {Γ : List Sh} {σ : Mem} {i x : Int32}
theorem x_alen {v : Int32} (hd : decode (mcd M) pc = .ok (.arraylength, 1)) (hs : Γ[k]? = some (t, n)) (ht : 1 ≤ t ∧ t < NTY) (hv : Int32.ofNat n = v) (kk : Wq G M E bc bs (pc + 1) lv ll (.int v :: st) Γ σ) : Wq G M E bc bs pc lv ll (rf G k :: st) Γ σ := by
  intro p e s m args below meth c C H locs cells slots ls hV hS h1 h2 hl
  obtain ⟨f, hc⟩ := (hV.2 k _ hs).arr ht.1 (Nat.lt_of_lt_of_le ht.2 NTY9)
  exact W.alen C.exec C.code hc ((C.arr ht.1 ht.2).1 n f) (by rw [arrV_size]; exact hv) rfl rfl hd (kk p e s m args below meth c C H locs cells slots ls hV hS h1 h2 hl)
theorem x_iald (hd : decode (mcd M) pc = .ok (.iaload, 1)) (hs : Γ[k]? = some (1, n)) (hin : vp_in i n) (kk : Wq G M E bc bs (pc + 1) lv ll (.int (σ.1 k i.toNatClampNeg) :: st) Γ σ) : Wq G M E bc bs pc lv ll (.int i :: rf G k :: st) Γ σ := by
  intro p e s m args below meth c C H locs cells slots ls hV hS h1 h2 hl
  have hlt : i.toNatClampNeg < n := Nat.not_le.mp fun q => hin (Or.inr q)
  have hc : H[cB G + k]? = some (arrV (cCA G 1) n (fun i => .int (σ.1 k i))) := hV.2 k _ hs
  exact W.iald C.exec C.code hc ((C.arr (t := 1) (by decide) (by decide)).1 n _) (fun q => by cases q) (by rw [arrV_size]; exact hin) (arrV_read _ _ hlt) rfl rfl hd (kk p e s m args below meth c C H locs cells slots ls hV hS h1 h2 hl)
theorem x_zald (hd : decode (mcd M) pc = .ok (.baload, 1)) (hs : Γ[k]? = some (2, n)) (hin : vp_in i n) (kk : Wq G M E bc bs (pc + 1) lv ll (.int (σ.1 k i.toNatClampNeg) :: st) Γ σ) : Wq G M E bc bs pc lv ll (.int i :: rf G k :: st) Γ σ := by
  intro p e s m args below meth c C H locs cells slots ls hV hS h1 h2 hl
  have hlt : i.toNatClampNeg < n := Nat.not_le.mp fun q => hin (Or.inr q)
  have hc : H[cB G + k]? = some (arrV (cCA G 2) n (fun i => .int (σ.1 k i))) := hV.2 k _ hs
  exact W.zald C.exec C.code hc ((C.arr (t := 2) (by decide) (by decide)).1 n _) (fun q => by cases q) (by rw [arrV_size]; exact hin) (arrV_read _ _ hlt) rfl rfl hd (kk p e s m args below meth c C H locs cells slots ls hV hS h1 h2 hl)
theorem x_lald (hd : decode (mcd M) pc = .ok (.laload, 1)) (hs : Γ[k]? = some (3, n)) (hin : vp_in i n) (kk : Wq G M E bc bs (pc + 1) lv ll (.long (σ.2.2 k i.toNatClampNeg) :: st) Γ σ) : Wq G M E bc bs pc lv ll (.int i :: rf G k :: st) Γ σ := by
  intro p e s m args below meth c C H locs cells slots ls hV hS h1 h2 hl
  have hlt : i.toNatClampNeg < n := Nat.not_le.mp fun q => hin (Or.inr q)
  have hc : H[cB G + k]? = some (arrV (cCA G 3) n (fun i => .long (σ.2.2 k i))) := hV.2 k _ hs
  exact W.lald C.exec C.code hc ((C.arr (t := 3) (by decide) (by decide)).1 n _) (fun q => by cases q) (by rw [arrV_size]; exact hin) (arrV_read _ _ hlt) rfl rfl hd (kk p e s m args below meth c C H locs cells slots ls hV hS h1 h2 hl)
theorem x_aald0 (hd : decode (mcd M) pc = .ok (.aaload, 1)) (hs : Γ[k]? = some (t, n)) (ht : 4 ≤ t ∧ t < NTY) (hin : vp_in i n) (kk : Wq G M E bc bs (pc + 1) lv ll (ov G (σ.2.1 k i.toNatClampNeg) :: st) Γ σ) : Wq G M E bc bs pc lv ll (.int i :: rf G k :: st) Γ σ := by
  intro p e s m args below meth c C H locs cells slots ls hV hS h1 h2 hl
  have hlt : i.toNatClampNeg < n := Nat.not_le.mp fun q => hin (Or.inr q)
  have hc := (cellOK.q ht.1 (Nat.lt_of_lt_of_le ht.2 NTY9)).mp (hV.2 k _ hs)
  exact W.aald C.exec C.code hc ((C.arr (by omega) ht.2).1 n _) (ctyp_ref ht.1 ht.2) (fun q => by cases q) (by rw [arrV_size]; exact hin) (arrV_read _ _ hlt) rfl rfl hd (kk p e s m args below meth c C H locs cells slots ls hV hS h1 h2 hl)
theorem x_aald (hd : decode (mcd M) pc = .ok (.aaload, 1)) (hs : Γ[k]? = some (t, n)) (ht : 4 ≤ t ∧ t < NTY) (hin : vp_in i n) {k2 : Nat} (hv : σ.2.1 k i.toNatClampNeg = some k2) (kk : Wq G M E bc bs (pc + 1) lv ll (rf G k2 :: st) Γ σ) : Wq G M E bc bs pc lv ll (.int i :: rf G k :: st) Γ σ := x_aald0 hd hs ht hin (by rw [hv]; exact kk)
theorem x_aaldO (hd : decode (mcd M) pc = .ok (.aaload, 1)) (hs : Γ[k]? = some (t, n)) (ht : 4 ≤ t ∧ t < NTY) (hin : vp_in i n) (kn : σ.2.1 k i.toNatClampNeg = none → Wq G M E bc bs (pc + 1) lv ll (.null :: st) Γ σ) (ks : ∀ k2, σ.2.1 k i.toNatClampNeg = some k2 → Wq G M E bc bs (pc + 1) lv ll (rf G k2 :: st) Γ σ) : Wq G M E bc bs pc lv ll (.int i :: rf G k :: st) Γ σ := x_aald0 hd hs ht hin (by
  cases h : σ.2.1 k i.toNatClampNeg with
  | none => exact kn h
  | some k2 => exact ks k2 h)
theorem x_iast (hd : decode (mcd M) pc = .ok (.iastore, 1)) (hs : Γ[k]? = some (1, n)) (hin : vp_in i n) (kk : Wq G M E bc bs (pc + 1) lv ll st Γ (wI σ k i.toNatClampNeg x)) : Wq G M E bc bs pc lv ll (.int x :: .int i :: rf G k :: st) Γ σ := by
  intro p e s m args below meth c C H locs cells slots ls hV hS h1 h2 hl
  have hc : H[cB G + k]? = some (arrV (cCA G 1) n (fun i => .int (σ.1 k i))) := hV.2 k _ hs
  refine W.iast C.exec C.code hc ((C.arr (t := 1) (by decide) (by decide)).1 n _) (fun q => by cases q) (by rw [arrV_size]; exact hin) rfl rfl hd fun H1 e1 z oq => ?_
  refine kk p e s m args below meth c C H1 _ cells slots ls (hV.upd hs (fun a ha => funext fun q => by simp [wI, ha]) (fun _ _ => rfl) (fun _ _ => rfl) z oq ?_) (hS.put z oq (Nat.le_add_right _ _)) h1 h2 hl
  show H1[cB G + k]? = some (arrV (cCA G 1) n (fun q => .int ((wI σ k i.toNatClampNeg x).1 k q)))
  rw [e1, arrV_store]
  congr 2
  funext q
  by_cases hq : q = i.toNatClampNeg <;> simp [updV, wI, hq]
theorem x_zast (hd : decode (mcd M) pc = .ok (.bastore, 1)) (hs : Γ[k]? = some (2, n)) (hin : vp_in i n) (hx : vp_nar .boolean x = x) (kk : Wq G M E bc bs (pc + 1) lv ll st Γ (wI σ k i.toNatClampNeg x)) : Wq G M E bc bs pc lv ll (.int x :: .int i :: rf G k :: st) Γ σ := by
  intro p e s m args below meth c C H locs cells slots ls hV hS h1 h2 hl
  have hc : H[cB G + k]? = some (arrV (cCA G 2) n (fun i => .int (σ.1 k i))) := hV.2 k _ hs
  refine W.zast C.exec C.code hc ((C.arr (t := 2) (by decide) (by decide)).1 n _) (fun q => by cases q) (by rw [arrV_size]; exact hin) rfl rfl hd fun H1 e1 z oq => ?_
  refine kk p e s m args below meth c C H1 _ cells slots ls (hV.upd hs (fun a ha => funext fun q => by simp [wI, ha]) (fun _ _ => rfl) (fun _ _ => rfl) z oq ?_) (hS.put z oq (Nat.le_add_right _ _)) h1 h2 hl
  show H1[cB G + k]? = some (arrV (cCA G 2) n (fun q => .int ((wI σ k i.toNatClampNeg x).1 k q)))
  rw [e1, arrV_store]
  congr 2
  funext q
  by_cases hq : q = i.toNatClampNeg
  · simp [updV, wI, hq]
    exact congrArg Value.int hx
  · simp [updV, wI, hq]
theorem x_last {y : Int64} (hd : decode (mcd M) pc = .ok (.lastore, 1)) (hs : Γ[k]? = some (3, n)) (hin : vp_in i n) (kk : Wq G M E bc bs (pc + 1) lv ll st Γ (wL σ k i.toNatClampNeg y)) : Wq G M E bc bs pc lv ll (.long y :: .int i :: rf G k :: st) Γ σ := by
  intro p e s m args below meth c C H locs cells slots ls hV hS h1 h2 hl
  have hc : H[cB G + k]? = some (arrV (cCA G 3) n (fun i => .long (σ.2.2 k i))) := hV.2 k _ hs
  refine W.last C.exec C.code hc ((C.arr (t := 3) (by decide) (by decide)).1 n _) (fun q => by cases q) (by rw [arrV_size]; exact hin) rfl rfl hd fun H1 e1 z oq => ?_
  refine kk p e s m args below meth c C H1 _ cells slots ls (hV.upd hs (fun _ _ => rfl) (fun _ _ => rfl) (fun a ha => funext fun q => by simp [wL, ha]) z oq ?_) (hS.put z oq (Nat.le_add_right _ _)) h1 h2 hl
  show H1[cB G + k]? = some (arrV (cCA G 3) n (fun q => .long ((wL σ k i.toNatClampNeg y).2.2 k q)))
  rw [e1, arrV_store]
  congr 2
  funext q
  by_cases hq : q = i.toNatClampNeg <;> simp [updV, wL, hq]
theorem x_aast {k2 ci : Nat} {r : vw_C} (hd : decode (mcd M) pc = .ok (.aastore, 1)) (hs : Γ[k]? = some (t, n)) (ht : 4 ≤ t ∧ t < NTY) (hs2 : Γ[k2]? = some (0, ci)) (hc2 : vwCl[ci]? = some r) (hct : ctyp t = .object r.1) (hin : vp_in i n) (kk : Wq G M E bc bs (pc + 1) lv ll st Γ (wR σ k i.toNatClampNeg (some k2))) : Wq G M E bc bs pc lv ll (rf G k2 :: .int i :: rf G k :: st) Γ σ := by
  intro p e s m args below meth c C H locs cells slots ls hV hS h1 h2 hl
  have hlt : i.toNatClampNeg < n := Nat.not_le.mp fun q => hin (Or.inr q)
  have h0 : ¬ i < 0 := fun q => hin (Or.inl q)
  have ht9 : t < 9 := Nat.lt_of_lt_of_le ht.2 NTY9
  have hc := (cellOK.q ht.1 ht9).mp (hV.2 k _ hs)
  obtain ⟨r', hr', cellV, g1, g2, g3, -⟩ := hV.2 k2 _ hs2
  have hcls := (C.K.1 ci r hc2).2
  have hra := (C.arr (t := t) (by omega) ht.2).2
  rw [hct] at hra
  obtain ⟨kA, comp, k1, k3, k4, -⟩ := hra
  have hcomp : comp = (cD G).1 ci := Option.some.inj (k4.symm.trans hcls.1)
  subst hcomp
  obtain ⟨kC, hkC, -⟩ := hcls.2
  refine W.aast C.exec C.code hc (fun q h => by cases h) (fun h => by cases h) k1 k3 rfl hkC ⟨h0, by rw [arrV_size]; exact hlt⟩ g1 (fun q h => by rw [g3] at h; cases h) (by rw [g2]; exact hkC) (by rw [g2]; exact va_assign hcls) rfl rfl hd fun H1 e1 z oq => ?_
  refine kk p e s m args below meth c C H1 _ cells slots ls (hV.upd hs (fun _ _ => rfl) (fun a ha => funext fun q => by simp [wR, ha]) (fun _ _ => rfl) z oq ((cellOK.q ht.1 ht9).mpr ?_)) (hS.put z oq (Nat.le_add_right _ _)) h1 h2 hl
  rw [e1, arrV_store]
  congr 2
  funext q
  by_cases hq : q = i.toNatClampNeg
  · simp [updV, wR, hq]
    rfl
  · simp [updV, wR, hq]
end Arrays
/-! making cells -/
def zr (σ : Mem) (k : Nat) : Mem := (fun a i => if a = k then 0 else σ.1 a i, fun a i => if a = k then none else σ.2.1 a i, fun a i => if a = k then 0 else σ.2.2 a i)
theorem VH.push {G : Ctx} {Γ : List Sh} {σ : Mem} {H H1 : Heap} {sh : Sh} (hV : VH G Γ σ H) (hz : H1.size = H.size + 1) (ho : ∀ q : Nat, q < H.size → H1[q]? = H[q]?) (hc : cellOK G (fun _ => 0) (fun _ => none) (fun _ => 0) Γ.length sh H1) : VH G (Γ ++ [sh]) (zr σ Γ.length) H1 := by
  refine ⟨by rw [hz, hV.1, List.length_append]; rfl, fun k s hs => ?_⟩
  by_cases e : k = Γ.length
  · subst e
    rw [List.getElem?_append_right (Nat.le_refl _), Nat.sub_self] at hs
    cases hs
    simpa [zr] using hc
  · have hl : k < Γ.length := by
      have := (List.getElem?_eq_some_iff.mp hs).1
      rw [List.length_append] at this
      simp at this
      omega
    rw [List.getElem?_append_left hl] at hs
    have h := (hV.2 k s hs).kept (H1 := H1) (ho _ (by rw [hV.1]; omega))
    simpa [zr, e] using h
theorem va_S.grow {A : Nat → Prop} {H0 H H1 : Heap} {locs : List Loc} (h : va_S A H0 H locs) (z : H1.size = H.size + 1) (o : ∀ q : Nat, q < H.size → H1[q]? = H[q]?) : va_S A H0 H1 locs :=
  ⟨Nat.le_trans h.1 (by omega), fun q h1 h2 => (o q (Nat.lt_of_lt_of_le h1 h.1)).trans (h.2.1 q h1 h2), h.2.2⟩
def EvOK (E : Ev) : Prop := eC E ≤ (eR E).cells ∧ eM E ≤ (eR E).slots
theorem EvOK.m {G : Ctx} {d mc ms : Nat} {Q : Option Value → List Sh → Mem → Prop} : EvOK (Em G d mc ms Q) := ⟨Nat.le_refl _, Nat.le_refl _⟩
section News
variable {G : Ctx} {M : Mth} {E : Ev} {bc bs pc idx ci N t : Nat} {lv : List (Option Value)} {ll : List (Nat × Int64)} {st : List Value} {Γ : List Sh} {σ : Mem}
theorem x_new {Cn : String} {T : u_T} (hd : decode (mcd M) pc = .ok (.new idx, 3)) (hK : KC ci Cn T N) (hl : gd (.classLink (my M).cls idx Cn)) (hi : gd (.instantiable Cn N)) (hn : gd (.initialized Cn)) (hdf : ∀ j, j < N → defaultValue (tyOf ci j) = fval G (fun _ => 0) (fun _ => none) (fun _ => 0) j (tyOf ci j)) (hE : EvOK E)
    (kk : Wq G M E bc bs (pc + 3) lv ll (rf G Γ.length :: st) (Γ ++ [(0, ci)]) (zr σ Γ.length)) : Wq G M E (bc + 1) (bs + N) pc lv ll st Γ σ := by
  intro p e s m args below meth c C H locs cells slots ls hV hS h1 h2 hlv
  obtain ⟨hc, hw, hty, hnm⟩ := hK
  have hts : ∀ w ∈ u_ws Cn T N, w.before args s = true := fun w h => C.wd (hw w h).1 (hw w h).2
  have hKn := C.K.1 ci _ hc
  refine W.newcK C.exec C.code C.own (C.g hl) (C.g hi) (C.g hn) rfl hd (by have := hE.1; omega) (by have := hE.2; omega) hKn.2.1 rfl fun H1 kC hkC e1 z1 o1 => ?_
  have e2 := u_born (tyOf ci) hts (fun _ h => h) hKn hkC e1 hty
  rw [hV.1] at e2
  have k2 := kk p e s m args below meth c C H1 locs (cells + 1) (slots + N) ls (hV.push z1 o1 ⟨_, hc, e2.to hdf⟩) (hS.grow z1 o1) (by omega) (by omega) hlv
  unfold rf at k2
  rw [← hV.1] at k2
  exact k2
theorem x_newa {atype : ArrayType} {n : Int32} (hd : decode (mcd M) pc = .ok (.newarray atype, 2)) (hty : newarray.typeOf atype = ctyp t) (ht : 1 ≤ t ∧ t < 4) (hg : gd (.arrayClass (newarray.typeOf atype))) (hn : ¬ n < 0) (hN : n.toNatClampNeg = N) (hb : N * componentBytes (newarray.typeOf atype) ≤ 536870912) (hE : EvOK E)
    (kk : Wq G M E bc bs (pc + 2) lv ll (rf G Γ.length :: st) (Γ ++ [(t, N)]) (zr σ Γ.length)) : Wq G M E (bc + 1) (bs + N) pc lv ll (.int n :: st) Γ σ := by
  intro p e s m args below meth c C H locs cells slots ls hV hS h1 h2 hlv
  refine va_newaK C.exec C.code (C.g hg) rfl hd rfl hn hN hb (by have := hE.1; omega) (by have := hE.2; omega) rfl fun H1 cA e1 z1 o1 hAr hNm => ?_
  have hcA : cA = cCA G t := by
    have h9 := (C.arr ht.1 (Nat.lt_of_lt_of_le ht.2 NTY4)).2
    rw [← hty] at h9
    have h8 : s.vm.findClass ("[" ++ (newarray.typeOf atype).toString) = some (cCA G t) := by cases atype <;> exact h9
    exact Option.some.inj (hNm.symm.trans h8)
  subst hcA
  rw [hV.1] at e1
  have k2 := kk p e s m args below meth c C H1 locs (cells + 1) (slots + N) ls (hV.push z1 o1 (by
    rw [hty] at e1
    match t, ht with
    | 1, _ => exact e1
    | 2, _ => exact e1
    | 3, _ => exact e1)) (hS.grow z1 o1) (by omega) (by omega) hlv
  unfold rf at k2
  rw [← hV.1] at k2
  exact k2
theorem x_anew {Cn : String} {n : Int32} (hd : decode (mcd M) pc = .ok (.anewarray idx, 3)) (hl : gd (.classLink (my M).cls idx Cn)) (hct : ctyp t = .object Cn) (ht : 4 ≤ t ∧ t < NTY) (ho : Cond.arrayOver (.object Cn) ∈ lw_tbl) (hn : ¬ n < 0) (hN : n.toNatClampNeg = N) (hb : N * 4 ≤ 536870912) (hE : EvOK E)
    (kk : Wq G M E bc bs (pc + 3) lv ll (rf G Γ.length :: st) (Γ ++ [(t, N)]) (zr σ Γ.length)) : Wq G M E (bc + 1) (bs + N) pc lv ll (.int n :: st) Γ σ := by
  intro p e s m args below meth c C H locs cells slots ls hV hS h1 h2 hlv
  subst hN
  refine W.anew C.exec C.code C.own (C.g hl) (va_AO.use (va_AO.moved C.warm.alike (va_AO.of (C.ok.1 _ ho)))) rfl hd rfl hn hb (by have := hE.1; omega) (by have := hE.2; omega) fun cA kA comp f1 f2 f3 f4 => ?_
  have hcA : cA = cCA G t := by
    have h9 := (C.arr (t := t) (by omega) ht.2).2
    rw [hct] at h9
    obtain ⟨_, _, -, -, -, h8⟩ := h9
    exact Option.some.inj (f1.symm.trans h8)
  subst hcA
  have z1 : (H.push ({ cls := cCA G t, slots := Array.replicate n.toNatClampNeg .null, vm := .none } : Cell)).size = H.size + 1 := by simp
  have o1 : ∀ q : Nat, q < H.size → (H.push ({ cls := cCA G t, slots := Array.replicate n.toNatClampNeg .null, vm := .none } : Cell))[q]? = H[q]? := fun q hq => by rw [Array.getElem?_push, if_neg (Nat.ne_of_lt hq)]
  have k2 := kk p e s m args below meth c C _ locs (cells + 1) (slots + n.toNatClampNeg) ls (hV.push z1 o1 ((cellOK.q ht.1 (Nat.lt_of_lt_of_le ht.2 NTY9)).mpr (by
    rw [← hV.1, arrV_new]
    simp
    rfl))) (hS.grow z1 o1) (by omega) (by omega) hlv
  unfold rf at k2
  rw [← hV.1] at k2
  exact k2
end News
