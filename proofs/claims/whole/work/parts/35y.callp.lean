/-! a private method of the class above -/
theorem sel_priv {C : String} {y : MethodName} {s : State} {args : Array Value} {n : Nat} (hins : (Cond.instantiable C n).before args s = true) (hsm : (Cond.sameMethod y.cls y.cls y.name y.desc).before args s = true) (hpriv : (Cond.privateMethod y).before args s = true) (hinst : (Cond.instanceMethod y).before args s = true) (hy : y.cls ≠ "java/lang/invoke/MethodHandle" ∧ y.cls ≠ "java/lang/invoke/VarHandle") :
    (Cond.selects C y y).before args s = true := by
  obtain ⟨c, k, hc, hk, -, hniab, -, -⟩ := Cond.instantiable_spec hins
  obtain ⟨mk, methM, hnamed, hmethM, -, -⟩ := Cond.instanceMethod_spec hinst
  have hfound : s.methodFound? y.cls y.name y.desc = some mk := State.methodFound?_of_named hnamed hy
  have hsel : selectMethod {} s.vm c mk = .method mk := selectMethod_private hmethM (Cond.privateMethod_at hpriv mk methM hnamed hmethM)
  have hcls := findClass_of_methodNamed hnamed
  have hn2 : s.methodNamed? ⟨y.cls, y.name, y.desc⟩ = some mk := hnamed
  simp only [Cond.before, Cond.holds, Cond.value, hcls, hfound, hn2] at hsm
  simp only [Cond.before, Cond.holds, Cond.value, hc, hfound, hnamed, hsel]
  simp at hsm ⊢
  exact hsm
section CallsP
variable {G : Ctx} {M M' : Mth} {E : Ev} {d mc ms bc bs pc idx n k ci : Nat} {lv : List (Option Value)} {ll : List (Nat × Int64)} {st as : List Value} {Γ : List Sh} {σ : Mem}
theorem x_callPg {r : vw_C} {x : MethodName} {owner : String} {nn : Nat} (hd : decode (mcd M) pc = .ok (.invokevirtual idx, 3)) (hL : LK M' n) (hl : gd (.methodLink (my M).cls idx x)) (hsm : gd (.sameMethod x.cls owner x.name x.desc)) (ho : owner ≠ "java/lang/invoke/MethodHandle" ∧ owner ≠ "java/lang/invoke/VarHandle") (hxn : (parseMethodDescriptor x.desc).map (fun d => d.parameters.length) = some n)
    (hdc : Cond.declares ⟨owner, x.name, x.desc⟩ ∈ lw_tbl ∨ ∃ b0 m0 r0, gd (.instanceMethod ⟨owner, x.name, x.desc⟩) ∧ gd (.code ⟨owner, x.name, x.desc⟩ b0 m0 r0)) (hi : gd (.instanceMethod (my M'))) (hc : vwCl[ci]? = some r) (hpv : Cond.privateMethod x ∈ lw_tbl) (hins : gd (.instantiable r.1 nn)) (hx : x = my M') (how : owner = x.cls) (hs : Γ[k]? = some (0, ci)) (hn : as.length = n) (hR : RoomE E d) (hcat : (st.map fun v => v.category).sum ≤ 8)
    (hC : Ct G M' d mc ms (rf G k :: as) Γ σ (fun r Γ' σ' => Wq G M E bc bs (pc + 3) lv ll (r.toList ++ st) Γ' σ')) : Wq G M E (bc + mc) (bs + ms) pc lv ll (as.reverse ++ rf G k :: st) Γ σ := by
  intro p e s m args below meth c C H locs cells slots ls hV hS h1 h2 hlv
  obtain ⟨c1, c2, c3, c4, c5, c6⟩ := hL
  have hdc' : va_Decl s ⟨owner, x.name, x.desc⟩ := by
    rcases hdc with h | ⟨b0, m0, r0, g1, g2⟩
    · exact va_Decl.abs (va_Nw.warmD C.warm (va_Nw.of rfl (C.ok.1 _ h)))
    · exact va_Decl.of (args := #[]) (C.g g1) (C.g g2)
  have cw : va_CU (eR E) s args (my M).cls r.1 owner idx x (my M') (mcd M') (mL M') (mrt M') (mws M') (RM d mc ms) mc ms n := by
    refine ⟨⟨rfl, rfl, hR.1, ?_, ?_, by rw [c5]; exact List.mem_cons_self⟩, C.g c1, C.g c2, ho, len_of hxn, C.g hl, C.g hsm, hdc', (by subst how; rw [← hx]; exact word_at C.warm (good_of_word rfl) (sel_priv (C.ok.1 _ hins.1) (C.ok.1 _ hsm.1) (C.ok.1 _ hpv) (by rw [hx]; exact C.ok.1 _ hi.1) ho)), C.g hi⟩
    · have := hR.2.1
      show 8 + (mL M' + 11) + 40 * d ≤ (eR E).locals
      omega
    · rw [c5]
      intro w hw
      rw [List.mem_singleton.mp hw]
      exact C.gw c1
  refine go_run C hS h1 h2 hlv (va_runU (Ts := []) (n := n) (b := cB G + k) (As := as) (rest := st) ⟨C.exec, C.code, C.maxL, C.own, fun w h => by cases h⟩ (hC C.ok) cw ⟨Pcc.blind, rcv_of C hV hc hs, pre_of C hV hS⟩ rfl hn hlv.1.1 rfl (lv_room hcat) hd ⟨?_, ?_⟩) (fun _ _ _ h => h)
  · have := hR.2.2.1; omega
  · have := hR.2.2.2; omega
end CallsP
theorem x_callP2 {G : Ctx} {M M' : Mth} {E : Ev} {d bc bs pc idx k ci : Nat} {lv : List (Option Value)} {ll : List (Nat × Int64)} {st : List Value} {Γ : List Sh} {σ : Mem} {a b : Value} {r : vw_C} {x : MethodName} {owner : String} {nn : Nat} (hd : decode (mcd M) pc = .ok (.invokevirtual idx, 3)) (hL : LK M' 2) (hl : gd (.methodLink (my M).cls idx x)) (hsm : gd (.sameMethod x.cls owner x.name x.desc)) (ho : owner ≠ "java/lang/invoke/MethodHandle" ∧ owner ≠ "java/lang/invoke/VarHandle") (hxn : (parseMethodDescriptor x.desc).map (fun d => d.parameters.length) = some 2) (hdc : Cond.declares ⟨owner, x.name, x.desc⟩ ∈ lw_tbl ∨ ∃ b0 m0 r0, gd (.instanceMethod ⟨owner, x.name, x.desc⟩) ∧ gd (.code ⟨owner, x.name, x.desc⟩ b0 m0 r0)) (hi : gd (.instanceMethod (my M'))) (hc : vwCl[ci]? = some r) (hpv : Cond.privateMethod x ∈ lw_tbl) (hins : gd (.instantiable r.1 nn)) (hx : x = my M') (how : owner = x.cls) (hs : Γ[k]? = some (0, ci)) (hR : RoomE E d) (hcat : (st.map fun v => v.category).sum ≤ 8) (hC : Ct G M' d 0 0 (rf G k :: [a, b]) Γ σ (fun r Γ' σ' => Wq G M E bc bs (pc + 3) lv ll (r.toList ++ st) Γ' σ')) : Wq G M E bc bs pc lv ll (b :: a :: rf G k :: st) Γ σ := x_callPg (as := [a, b]) hd hL hl hsm ho hxn hdc hi hc hpv hins hx how hs rfl hR hcat hC
theorem pv_Program_constructorAskedFor : Cond.privateMethod (my M_Program_constructorAskedFor) ∈ lw_tbl := tb3_in (i := 229) rfl
