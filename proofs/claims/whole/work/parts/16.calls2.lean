/-! calls of nest mates' private methods, inherited and overriding methods -/
section Calls2
variable {G : Ctx} {M M' : Mth} {E : Ev} {d mc ms bc bs pc idx n k ci : Nat} {lv : List (Option Value)} {ll : List (Nat × Int64)} {st as : List Value} {Γ : List Sh} {σ : Mem}
theorem cn_of {p : Program} {s : State} {m : MethodId} {args : Array Value} {meth : Method} {c : Code} {host : String} (C : Cx G M p s m meth c) (hL : LK M' n) (hR : RoomE E d) (hl : Cond.methodLinkNest (my M).cls idx (my M') host ∈ lw_tbl) : va_CN (eR E) s args (my M).cls idx (my M') host (mcd M') (mL M') (mrt M') (mws M') (RM d mc ms) mc ms n := by
  obtain ⟨c1, c2, c3, c4, c5, c6⟩ := hL
  refine ⟨⟨rfl, rfl, hR.1, ?_, ?_, by rw [c5]; exact List.mem_cons_self⟩, C.g c1, C.g c2, c3, len_of c4, va_Nw.use rfl (va_Nw.warmM C.warm (va_Nw.of rfl (C.ok.1 _ hl)))⟩
  · have := hR.2.1
    show 8 + (mL M' + 11) + 40 * d ≤ (eR E).locals
    omega
  · rw [c5]
    intro w hw
    rw [List.mem_singleton.mp hw]
    exact C.gw c1
theorem x_callVNg {r : vw_C} {host : String} (hd : decode (mcd M) pc = .ok (.invokevirtual idx, 3)) (hL : LK M' n) (hl : Cond.methodLinkNest (my M).cls idx (my M') host ∈ lw_tbl) (hi : gd (.instanceMethod (my M'))) (hc : vwCl[ci]? = some r) (hsel : gd (.selects r.1 (my M') (my M'))) (hs : Γ[k]? = some (0, ci)) (hn : as.length = n) (hR : RoomE E d) (hcat : (st.map fun v => v.category).sum ≤ 8)
    (hC : Ct G M' d mc ms (rf G k :: as) Γ σ (fun r Γ' σ' => Wq G M E bc bs (pc + 3) lv ll (r.toList ++ st) Γ' σ')) : Wq G M E (bc + mc) (bs + ms) pc lv ll (as.reverse ++ rf G k :: st) Γ σ := by
  intro p e s m args below meth c C H locs cells slots ls hV hS h1 h2 hlv
  refine go_run C hS h1 h2 hlv (va_runVN (Ts := []) (n := n) (b := cB G + k) (As := as) (rest := st) ⟨C.exec, C.code, C.maxL, C.own, fun w h => by cases h⟩ (hC C.ok) ⟨cn_of C hL hR hl, C.g hi, C.g hsel⟩ ⟨Pcc.blind, rcv_of C hV hc hs, pre_of C hV hS⟩ rfl hn hlv.1.1 rfl (lv_room hcat) hd ⟨?_, ?_⟩) (fun _ _ _ h => h)
  · have := hR.2.2.1; omega
  · have := hR.2.2.2; omega
theorem x_callSNg {host : String} (hd : decode (mcd M) pc = .ok (.invokestatic idx, 3)) (hL : LK M' n) (hl : Cond.methodLinkNest (my M).cls idx (my M') host ∈ lw_tbl) (hi : gd (.static (my M'))) (hn : as.length = n) (hR : RoomE E d) (hcat : (st.map fun v => v.category).sum ≤ 8)
    (hC : Ct G M' d mc ms as Γ σ (fun r Γ' σ' => Wq G M E bc bs (pc + 3) lv ll (r.toList ++ st) Γ' σ')) : Wq G M E (bc + mc) (bs + ms) pc lv ll (as.reverse ++ st) Γ σ := by
  intro p e s m args below meth c C H locs cells slots ls hV hS h1 h2 hlv
  refine go_run C hS h1 h2 hlv (va_runSN (Ts := []) (n := n) (As := as) (rest := st) ⟨C.exec, C.code, C.maxL, C.own, fun w h => by cases h⟩ (hC C.ok) ⟨cn_of C hL hR hl, C.g hi, trivial⟩ ⟨Pcc.blind, pre_of C hV hS⟩ rfl hn hlv.1.1 rfl (lv_room hcat) hd ⟨?_, ?_⟩) (fun _ _ _ h => h)
  · have := hR.2.2.1; omega
  · have := hR.2.2.2; omega
/-- a call that names x and lands in M' for the receiver's class: inherited, or of an abstract or overridden method -/
theorem x_callUg {r : vw_C} {x : MethodName} {owner : String} (hd : decode (mcd M) pc = .ok (.invokevirtual idx, 3)) (hL : LK M' n) (hl : gd (.methodLink (my M).cls idx x)) (hsm : gd (.sameMethod x.cls owner x.name x.desc)) (ho : owner ≠ "java/lang/invoke/MethodHandle" ∧ owner ≠ "java/lang/invoke/VarHandle") (hxn : (parseMethodDescriptor x.desc).map (fun d => d.parameters.length) = some n)
    (hdc : Cond.declares ⟨owner, x.name, x.desc⟩ ∈ lw_tbl ∨ ∃ b0 m0 r0, gd (.instanceMethod ⟨owner, x.name, x.desc⟩) ∧ gd (.code ⟨owner, x.name, x.desc⟩ b0 m0 r0)) (hi : gd (.instanceMethod (my M'))) (hc : vwCl[ci]? = some r) (hsel : gd (.selects r.1 x (my M'))) (hs : Γ[k]? = some (0, ci)) (hn : as.length = n) (hR : RoomE E d) (hcat : (st.map fun v => v.category).sum ≤ 8)
    (hC : Ct G M' d mc ms (rf G k :: as) Γ σ (fun r Γ' σ' => Wq G M E bc bs (pc + 3) lv ll (r.toList ++ st) Γ' σ')) : Wq G M E (bc + mc) (bs + ms) pc lv ll (as.reverse ++ rf G k :: st) Γ σ := by
  intro p e s m args below meth c C H locs cells slots ls hV hS h1 h2 hlv
  obtain ⟨c1, c2, c3, c4, c5, c6⟩ := hL
  have hdc' : va_Decl s ⟨owner, x.name, x.desc⟩ := by
    rcases hdc with h | ⟨b0, m0, r0, g1, g2⟩
    · exact va_Decl.abs (va_Nw.warmD C.warm (va_Nw.of rfl (C.ok.1 _ h)))
    · exact va_Decl.of (args := #[]) (C.g g1) (C.g g2)
  have cw : va_CU (eR E) s args (my M).cls r.1 owner idx x (my M') (mcd M') (mL M') (mrt M') (mws M') (RM d mc ms) mc ms n := by
    refine ⟨⟨rfl, rfl, hR.1, ?_, ?_, by rw [c5]; exact List.mem_cons_self⟩, C.g c1, C.g c2, ho, len_of hxn, C.g hl, C.g hsm, hdc', C.g hsel, C.g hi⟩
    · have := hR.2.1
      show 8 + (mL M' + 11) + 40 * d ≤ (eR E).locals
      omega
    · rw [c5]
      intro w hw
      rw [List.mem_singleton.mp hw]
      exact C.gw c1
  refine go_run C hS h1 h2 hlv (va_runU (Ts := []) (n := n) (b := cB G + k) (As := as) (rest := st) ⟨C.exec, C.code, C.maxL, C.own, fun w h => by cases h⟩ (hC C.ok) cw ⟨Pcc.blind, rcv_of C hV hc hs, pre_of C hV hS⟩ rfl hn hlv.1.1 rfl (lv_room hcat) hd ⟨?_, ?_⟩) (fun _ _ _ h => h)
  · have := hR.2.2.1; omega
  · have := hR.2.2.2; omega
end Calls2
/-! Object.<init>, Math, System.arraycopy -/
section Lib0
variable {G : Ctx} {M : Mth} {E : Ev} {bc bs pc idx k k2 n n2 : Nat} {lv : List (Option Value)} {ll : List (Nat × Int64)} {st : List Value} {Γ : List Sh} {σ : Mem} {x y : Int32}
def RoomL (E : Ev) : Prop := 1 ≤ (eR E).frames ∧ 40 ≤ (eR E).locals ∧ eC E ≤ (eR E).cells ∧ eM E ≤ (eR E).slots
theorem RoomL.m {d mc ms : Nat} {Q : Option Value → List Sh → Mem → Prop} : RoomL (Em G (d + 1) mc ms Q) := by
  refine ⟨?_, ?_, Nat.le_refl _, Nat.le_refl _⟩
  · show 1 ≤ d + 1; omega
  · show 40 ≤ 40 * (d + 1); omega
theorem x_objInit (hd : decode (mcd M) pc = .ok (.invokespecial idx, 3)) (hl : gd (.methodLink (my M).cls idx Lib.objectInit)) (hi : gd (.instanceMethod Lib.objectInit)) (hc : gd (.code Lib.objectInit ⟨#[0xb1]⟩ 1 none)) (hR : RoomL E) (hcat : (st.map fun v => v.category).sum ≤ 8) (kk : Wq G M E bc bs (pc + 3) lv ll st Γ σ) : Wq G M E bc bs pc lv ll (rf G k :: st) Γ σ := by
  intro p e s m args below meth c C H locs cells slots ls hV hS h1 h2 hlv
  have hr := hR.1
  have hr2 := hR.2.1
  exact W.objInit C.exec C.code C.own (C.g hl) (C.g hi) (C.g hc) rfl (hlv.1.1.trans C.maxL.symm) rfl hd (by omega) (by show 2 * 0 + _ + 12 ≤ _; omega) (kk p e s m args below meth c C H locs cells slots ls hV hS h1 h2 hlv)
theorem x_mmax (hd : decode (mcd M) pc = .ok (.invokestatic idx, 3)) (hl : gd (.methodLink (my M).cls idx Lib.Math.max.name)) (hs : gd (.static Lib.Math.max.name)) (hi : gd (.initialized "java/lang/Math")) (hc : gd (.code Lib.Math.max.name Lib.Math.max.code 2 (some .int))) (hR : RoomL E) (hcat : (st.map fun v => v.category).sum ≤ 8) (kk : Wq G M E bc bs (pc + 3) lv ll (.int (if x < y then y else x) :: st) Γ σ) : Wq G M E bc bs pc lv ll (.int y :: .int x :: st) Γ σ := by
  intro p e s m args below meth c C H locs cells slots ls hV hS h1 h2 hlv
  obtain ⟨r1, r2, r3, r4⟩ := hR
  exact va_mmax C.exec C.code (C.maxL.trans hlv.1.1.symm) C.own (C.g hl) (C.g hs) (C.g hi) (C.g hc) (by omega) (by omega) (by omega) (by omega) hd (kk p e s m args below meth c C H locs cells slots ls hV hS h1 h2 hlv)
theorem x_mmin (hd : decode (mcd M) pc = .ok (.invokestatic idx, 3)) (hl : gd (.methodLink (my M).cls idx Lib.Math.min.name)) (hs : gd (.static Lib.Math.min.name)) (hi : gd (.initialized "java/lang/Math")) (hc : gd (.code Lib.Math.min.name Lib.Math.min.code 2 (some .int))) (hR : RoomL E) (hcat : (st.map fun v => v.category).sum ≤ 8) (kk : Wq G M E bc bs (pc + 3) lv ll (.int (if y < x then y else x) :: st) Γ σ) : Wq G M E bc bs pc lv ll (.int y :: .int x :: st) Γ σ := by
  intro p e s m args below meth c C H locs cells slots ls hV hS h1 h2 hlv
  obtain ⟨r1, r2, r3, r4⟩ := hR
  exact va_mmin C.exec C.code (C.maxL.trans hlv.1.1.symm) C.own (C.g hl) (C.g hs) (C.g hi) (C.g hc) (by omega) (by omega) (by omega) (by omega) hd (kk p e s m args below meth c C H locs cells slots ls hV hS h1 h2 hlv)
def wC (σ : Mem) (a : Nat) (f : Nat → Int32) : Mem := (fun k i => if k = a then f i else σ.1 k i, σ.2)
theorem x_copyi {sp dp z : Int32} (hd : decode (mcd M) pc = .ok (.invokestatic idx, 3)) (hl : gd (.methodLink (my M).cls idx arraycopyName)) (hnat : gd (.native arraycopyName)) (hstt : gd (.static arraycopyName)) (hi : gd (.initialized "java/lang/System")) (hs : Γ[k]? = some (1, n)) (hs2 : Γ[k2]? = some (1, n2)) (g1 : ¬ sp < 0) (g2 : ¬ dp < 0) (g3 : ¬ z < 0) (g4 : sp.toNatClampNeg + z.toNatClampNeg ≤ n) (g5 : dp.toNatClampNeg + z.toNatClampNeg ≤ n2) (hR : RoomL E) (hcat : (st.map fun v => v.category).sum ≤ 8)
    (kk : Wq G M E bc bs (pc + 3) lv ll st Γ (wC σ k2 (va_cpy (σ.1 k) (σ.1 k2) sp.toNatClampNeg dp.toNatClampNeg z.toNatClampNeg))) : Wq G M E bc bs pc lv ll (.int z :: .int dp :: rf G k2 :: .int sp :: rf G k :: st) Γ σ := by
  intro p e s m args below meth c C H locs cells slots ls hV hS h1 h2 hlv
  obtain ⟨r1, r2, r3, r4⟩ := hR
  have nn : ∀ z : Int32, ¬ z < 0 → z.toInt = (z.toNatClampNeg : Int) := by
    intro z hz
    have hz0 : (0 : Int) ≤ z.toInt := by
      have := Int32.not_lt.mp hz
      simpa using Int32.le_iff_toInt_le.mp this
    show z.toInt = ((z.toInt.toNat : Nat) : Int)
    omega
  intro T hT X
  have hc0 : H[cB G + k]? = some (arrV (cCA G 1) n (fun i => .int (σ.1 k i))) := hV.2 k _ hs
  have hc1 : H[cB G + k2]? = some (arrV (cCA G 1) n2 (fun i => .int (σ.1 k2 i))) := hV.2 k2 _ hs2
  have hA := (C.arr (t := 1) (by decide) (by decide)).1
  obtain ⟨-, k0, hk0, cm0, hkk0⟩ := hA n (fun j => .int (σ.1 k j))
  obtain ⟨-, k1, hk1, cm1, hkk1⟩ := hA n2 (fun j => .int (σ.1 k2 j))
  have hnw : nativeFrameWords "java/lang/System" "arraycopy" 5 ≤ 21 := by decide +kernel
  obtain ⟨vm', X', step⟩ := X.arraycopy C.exec C.own (C.g hl) (C.g hnat) (C.g hstt) (C.g hi) (src := cB G + k) (dst := cB G + k2) (cs := arrV (cCA G 1) n (fun i => .int (σ.1 k i))) (cd := arrV (cCA G 1) n2 (fun i => .int (σ.1 k2 i))) (srcPos := sp) (destPos := dp) (n := z) (by rw [hT]; exact hc0) (by rw [hT]; exact hc1)
    (fun _ h => by cases h) (fun _ h => by cases h) (fun h => by cases h) (fun h => by cases h) hk0 hk1 hkk0 hkk1 (by simp [ctyp, refKind]) g1 g2 g3
    (by rw [nn sp g1, nn z g3, arrV_size]; omega)
    (by rw [nn dp g2, nn z g3, arrV_size]; omega)
    (fun vm₁ _ i hi => by
      have e : (arrV (cCA G 1) n (fun i => Value.int (σ.1 k i))).slots.getD (sp.toNatClampNeg + i) .null = .int (σ.1 k (sp.toNatClampNeg + i)) := by
        rw [Array.getD_eq_getD_getElem?, arrV_read _ _ (by omega)]
        rfl
      refine ⟨?_, ?_⟩
      · rw [e]; rfl
      · rw [e]; exact trivial)
    (g := F0 m pc ls (.int z :: .int dp :: rf G k2 :: .int sp :: rf G k :: st)) rfl (by rw [C.maxL]; exact hlv.1.1) (rest := st) rfl (by rw [C.code]; exact hd) (by omega) (by show 2 * 0 + _ + _ ≤ _; omega)
  have e1 : copied (arrV (cCA G 1) n (fun i => .int (σ.1 k i))) (arrV (cCA G 1) n2 (fun i => .int (σ.1 k2 i))) sp dp z = arrV (cCA G 1) n2 (fun i => .int (va_cpy (σ.1 k) (σ.1 k2) sp.toNatClampNeg dp.toNatClampNeg z.toNatClampNeg i)) := va_copied (fun z => .int z) _ _ (σ.1 k) (σ.1 k2) g4
  rw [e1] at X' step
  have hlt : cB G + k2 < H.size := (Array.getElem?_eq_some_iff.mp hc1).1
  have oq : ∀ q : Nat, q ≠ cB G + k2 → (H.setIfInBounds (cB G + k2) (arrV (cCA G 1) n2 (fun i => .int (va_cpy (σ.1 k) (σ.1 k2) sp.toNatClampNeg dp.toNatClampNeg z.toNatClampNeg i))))[q]? = H[q]? := fun q hq => by simp [Array.getElem?_setIfInBounds, Ne.symm hq]
  have hheap : ((T.setVm vm').setCell (cB G + k2) (arrV (cCA G 1) n2 (fun i => .int (va_cpy (σ.1 k) (σ.1 k2) sp.toNatClampNeg dp.toNatClampNeg z.toNatClampNeg i)))).heap = H.setIfInBounds (cB G + k2) (arrV (cCA G 1) n2 (fun i => .int (va_cpy (σ.1 k) (σ.1 k2) sp.toNatClampNeg dp.toNatClampNeg z.toNatClampNeg i))) := by rw [← hT]; rfl
  obtain ⟨t, a1, b1⟩ := kk p e s m args below meth c C _ _ cells slots ls (hV.upd hs2 (fun a ha => funext fun q => by simp [wC, ha]) (fun _ _ => rfl) (fun _ _ => rfl) (by simp) oq (by
      show (H.setIfInBounds _ _)[cB G + k2]? = some (arrV (cCA G 1) n2 (fun i => .int ((wC σ k2 (va_cpy (σ.1 k) (σ.1 k2) sp.toNatClampNeg dp.toNatClampNeg z.toNatClampNeg)).1 k2 i)))
      simp [Array.getElem?_setIfInBounds, hlt, wC])) ⟨by simp; exact hS.1, fun q g1 g2 => by
      rw [oq q (fun e => g2 (by rw [e]; exact Nat.le_add_right _ _))]
      exact hS.2.1 q g1 g2, fun q hq => by
      rcases List.mem_append.mp hq with h | h
      · exact hS.2.2 q h
      · obtain ⟨z, -, hz⟩ := List.mem_map.mp h
        rw [← hz]
        exact Nat.le_add_right _ _⟩ h1 h2 hlv _ hheap X'
  exact ⟨t, step t a1, b1⟩
end Lib0
