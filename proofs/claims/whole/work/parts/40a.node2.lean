/-! if_acmpne; Node.put; the tree -/
section Acmp
variable {p : Program} {l : Launch} {e : Env} {R : Room} {s : State} {m : MethodId} {args : Array Value} {below : List Frame} {meth : Method} {c : Code} {H : Heap} {locs : List Loc} {cells slots : Nat} {Q : State → Prop}
theorem w_acmpne {cc : ByteArray} (hexec : p.tables.exec = Jvm.exec) (hb : c.code = cc) {x y : Addr} {pc tgt : Nat} {off : Int} {ls : Array Slot} {rest : List Value} (hdg : decode cc pc = .ok (.if_acmp .ne off, 3)) (ht : (pc : Int) + off = (tgt : Int))
    (kt : ¬ x = y → W p l e R s m args below meth c H locs cells slots Q (F0 m tgt ls rest)) (kf : x = y → W p l e R s m args below meth c H locs cells slots Q (F0 m (pc + 3) ls rest)) : W p l e R s m args below meth c H locs cells slots Q (F0 m pc ls (.ref y :: .ref x :: rest)) := by
  intro T hT X
  by_cases hP : x = y
  · obtain ⟨t, a, b⟩ := kf hP T hT X
    refine ⟨t, ?_, b⟩
    jvm_step X.here [X.here.top, hexec, hb, hdg, Op.if_acmp.holds, Value.asRef?, hP, ht]
    exact a
  · obtain ⟨t, a, b⟩ := kt hP T hT X
    refine ⟨t, ?_, b⟩
    jvm_step X.here [X.here.top, hexec, hb, hdg, Op.if_acmp.holds, Value.asRef?, hP, ht]
    exact a
end Acmp
theorem x_acmp_ne {G : Ctx} {M : Mth} {E : Ev} {bc bs pc : Nat} {lv : List (Option Value)} {ll : List (Nat × Int64)} {st : List Value} {Γ : List Sh} {σ : Mem} {x y : Nat} {off : Int} {tgt : Nat} (hd : decode (mcd M) pc = .ok (.if_acmp .ne off, 3)) (ht : (pc : Int) + off = (tgt : Int)) (kt : ¬ x = y → Wq G M E bc bs tgt lv ll st Γ σ) (kf : x = y → Wq G M E bc bs (pc + 3) lv ll st Γ σ) : Wq G M E bc bs pc lv ll (rf G y :: rf G x :: st) Γ σ :=
  Wq.lift2 (fun hx hb _ k1 k2 => w_acmpne hx hb hd ht k1 k2) (fun (h : ¬ cB G + x = cB G + y) => kt (fun z => h (by rw [z]))) (fun (h : cB G + x = cB G + y) => kf (by omega))
/-- the tree: how many nodes, the next variable, too great, the nodes -/
abbrev TS : Type := Nat × Nat × Bool × (Nat → ND)
def tN (T : TS) : Nat := T.1
def tV (T : TS) : Nat := T.2.1
def tG (T : TS) : Bool := T.2.2.1
def tD (T : TS) : Nat → ND := T.2.2.2
def tUp (T : TS) (n : Nat) (x : ND) : TS := (T.1, T.2.1, T.2.2.1, upN T.2.2.2 n x)
def isTree (Γ : List Sh) (σ : Mem) (T : TS) : Prop := Γ[131]? = some (0, 5) ∧ Γ[132]? = some (5, 48) ∧ σ.2.1 131 0 = some 132 ∧ (σ.1 131 1 = nI (tN T) ∧ tN T ≤ 48) ∧ (σ.1 131 2 = nI (tV T) ∧ tV T ≤ 100) ∧ σ.1 131 3 = bI (tG T) ∧ ∀ n, n < 48 → σ.2.1 132 n = some (133 + 5 * n) ∧ isNd Γ σ n (tD T n)
def inT (a : Nat) : Prop := 131 ≤ a ∧ a < 373
theorem isTree.nd {Γ : List Sh} {σ : Mem} {T : TS} {n : Nat} (h : isTree Γ σ T) (hn : n < 48) : isNd Γ σ n (tD T n) := (h.2.2.2.2.2.2 n hn).2
theorem isTree.P {Γ : List Sh} {σ σ' : Mem} {T : TS} {S : Nat → Prop} (h : isTree Γ σ T) (hf : FrP S σ σ') (h0 : ∀ a, inT a → ¬ S a) : isTree Γ σ' T := by
  obtain ⟨a, b, c, d, e, f, g⟩ := h
  have h1 := hf 131 (h0 _ ⟨by omega, by omega⟩)
  have h2 := hf 132 (h0 _ ⟨by omega, by omega⟩)
  refine ⟨a, b, by rw [h1.2.1]; exact c, by rw [h1.1]; exact d, by rw [h1.1]; exact e, by rw [h1.1]; exact f, fun n hn => ⟨by rw [h2.2.1]; exact (g n hn).1, (g n hn).2.P hf (fun z hz => h0 _ ?_)⟩⟩
  have hz' : 133 + 5 * n ≤ z ∧ z < 138 + 5 * n := hz
  exact ⟨by omega, by omega⟩
theorem isTree.up {Γ : List Sh} {σ σ' : Mem} {T : TS} {n : Nat} {x : ND} (h : isTree Γ σ T) (hn : n < 48) (hf : FrP (inN n) σ σ') (hx : isNd Γ σ' n x) : isTree Γ σ' (tUp T n x) := by
  obtain ⟨a, b, c, d, e, f, g⟩ := h
  have h1 := hf 131 (fun z => by unfold inN at z; omega)
  have h2 := hf 132 (fun z => by unfold inN at z; omega)
  refine ⟨a, b, by rw [h1.2.1]; exact c, by rw [h1.1]; exact d, by rw [h1.1]; exact e, by rw [h1.1]; exact f, fun k hk => ⟨by rw [h2.2.1]; exact (g k hk).1, ?_⟩⟩
  by_cases z : k = n
  · subst z
    show isNd Γ σ' k (upN T.2.2.2 k x k)
    rw [show upN T.2.2.2 k x k = x by simp [upN]]
    exact hx
  · show isNd Γ σ' k (upN T.2.2.2 n x k)
    rw [show upN T.2.2.2 n x k = T.2.2.2 k by simp [upN, z]]
    refine (g k hk).2.P hf (fun w hw hw2 => ?_)
    unfold inN at hw hw2
    omega
theorem FrP.T {n : Nat} {σ σ' : Mem} (h : FrP (inN n) σ σ') (hn : n < 48) : FrP inT σ σ' := h.mono (fun a ha => by unfold inN at ha; exact ⟨by omega, by omega⟩)
/-- Node.put -/
def tPut (T : TS) (p n : Nat) : TS := match (tD T p).2.1 5 with
  | none => tUp T p (xr (xr (tD T p) 4 (some n)) 5 (some n))
  | some q => tUp (tUp T q (xr (tD T q) 6 (some n))) p (xr (tD (tUp T q (xr (tD T q) 6 (some n))) p) 5 (some n))
theorem tD_up {T : TS} {n : Nat} {x : ND} : tD (tUp T n x) n = x := by simp [tD, tUp, upN]
theorem tD_ne {T : TS} {n k : Nat} {x : ND} (h : k ≠ n) : tD (tUp T n x) k = tD T k := by simp [tD, tUp, upN, h]
set_option maxRecDepth 10000 in
set_option maxHeartbeats 1000000 in
theorem c_Node_put {G : Ctx} {d : Nat} {Γ : List Sh} {σ : Mem} {Q : Option Value → List Sh → Mem → Prop} {T : TS} {p n : Nat}  (hT : isTree Γ σ T) (hp : p < 48) (hn : n < 48) (hQ : ∀ σ', isTree Γ σ' (tPut T p n) → FrP inT σ σ' → Q none Γ σ') : Ct G M_Node_put d 0 0 [rf G (133 + 5 * p), rf G (133 + 5 * n)] Γ σ Q := by
  have hN := hT.nd hp
  have hNn := hT.nd hn
  obtain ⟨m0, -⟩ := id hNn
  obtain ⟨n0, ⟨i0, ii⟩, ⟨q1, q2, qq⟩, nt, nr⟩ := id hN
  refine Ct.of (lv := [some (rf G (133 + 5 * p)), some (rf G (133 + 5 * n))]) (ll := []) rfl rfl (EN.cat (n := 0) ⟨rfl, rfl, trivial⟩ (Nat.le_of_ble_eq_true rfl)) ?_
  first | refine x_aload_n d_Node_put_0 rfl rfl ?_ | refine x_aloadN_n d_Node_put_0 rfl rfl ?_ | refine x_aloadE_n d_Node_put_0 rfl rfl ?_ | refine x_aloadO_n d_Node_put_0 rfl rfl ?_
  refine x_getQ d_Node_put_1 f_Node_70 rfl (by assumption) ((qq 5 rfl).1) ?_
  rcases hlb : (tD T p).2.1 5 with _ | q
  · show Wq _ _ _ _ _ _ _ _ (.null :: _) _ _
    refine x_ifnonnullN d_Node_put_4 ?_
    first | refine x_aload_n d_Node_put_7 rfl rfl ?_ | refine x_aloadN_n d_Node_put_7 rfl rfl ?_ | refine x_aloadE_n d_Node_put_7 rfl rfl ?_ | refine x_aloadO_n d_Node_put_7 rfl rfl ?_
    first | refine x_aload_n d_Node_put_8 rfl rfl ?_ | refine x_aloadN_n d_Node_put_8 rfl rfl ?_ | refine x_aloadE_n d_Node_put_8 rfl rfl ?_ | refine x_aloadO_n d_Node_put_8 rfl rfl ?_
    first | refine x_putR d_Node_put_9 (w_Node_m_73 _) rfl (by assumption) ?_ | refine x_putN d_Node_put_9 (w_Node_m_73 _) rfl (by assumption) ?_ | refine x_putQ d_Node_put_9 (w_Node_m_73 _) rfl (by assumption) ?_
    refine x_goto (tgt := 23) d_Node_put_12 (by decide) ?_
    first | refine x_aload_n d_Node_put_23 rfl rfl ?_ | refine x_aloadN_n d_Node_put_23 rfl rfl ?_ | refine x_aloadE_n d_Node_put_23 rfl rfl ?_ | refine x_aloadO_n d_Node_put_23 rfl rfl ?_
    first | refine x_aload_n d_Node_put_24 rfl rfl ?_ | refine x_aloadN_n d_Node_put_24 rfl rfl ?_ | refine x_aloadE_n d_Node_put_24 rfl rfl ?_ | refine x_aloadO_n d_Node_put_24 rfl rfl ?_
    first | refine x_putR d_Node_put_25 (w_Node_m_70 _) rfl (by assumption) ?_ | refine x_putN d_Node_put_25 (w_Node_m_70 _) rfl (by assumption) ?_ | refine x_putQ d_Node_put_25 (w_Node_m_70 _) rfl (by assumption) ?_
    exact x_return d_Node_put_28 rfl (by
      have h1 : isNd Γ _ p _ := (hN.wR (o := some n) (j := 4) rfl (lk48.s hn)).wR (o := some n) (j := 5) rfl (lk48.s hn)
      have f1 : FrP (inN p) σ (wR (wR σ (133 + 5 * p) 4 (some (133 + 5 * n))) (133 + 5 * p) 5 (some (133 + 5 * n))) := (FrP.rf.wR ⟨by omega, by omega⟩).wR ⟨by omega, by omega⟩
      refine hQ _ ?_ (f1.T hp)
      rw [tPut, hlb]
      exact hT.up hp f1 h1)
  · have hq : q < 48 := (qq 5 rfl).2 _ hlb
    have hM := hT.nd hq
    show Wq _ _ _ _ _ _ _ _ (rf G (133 + 5 * q) :: _) _ _
    refine x_ifnonnull (tgt := 15) d_Node_put_4 (by decide) ?_
    first | refine x_aload_n d_Node_put_15 rfl rfl ?_ | refine x_aloadN_n d_Node_put_15 rfl rfl ?_ | refine x_aloadE_n d_Node_put_15 rfl rfl ?_ | refine x_aloadO_n d_Node_put_15 rfl rfl ?_
    refine x_getQ d_Node_put_16 f_Node_70 rfl (by assumption) ((qq 5 rfl).1.trans (by rw [hlb])) ?_
    first | refine x_aload_n d_Node_put_19 rfl rfl ?_ | refine x_aloadN_n d_Node_put_19 rfl rfl ?_ | refine x_aloadE_n d_Node_put_19 rfl rfl ?_ | refine x_aloadO_n d_Node_put_19 rfl rfl ?_
    first | refine x_putR d_Node_put_20 (w_Node_m_38 _) rfl (by first | assumption | exact hM.1) ?_ | refine x_putN d_Node_put_20 (w_Node_m_38 _) rfl (by first | assumption | exact hM.1) ?_ | refine x_putQ d_Node_put_20 (w_Node_m_38 _) rfl (by first | assumption | exact hM.1) ?_
    first | refine x_aload_n d_Node_put_23 rfl rfl ?_ | refine x_aloadN_n d_Node_put_23 rfl rfl ?_ | refine x_aloadE_n d_Node_put_23 rfl rfl ?_ | refine x_aloadO_n d_Node_put_23 rfl rfl ?_
    first | refine x_aload_n d_Node_put_24 rfl rfl ?_ | refine x_aloadN_n d_Node_put_24 rfl rfl ?_ | refine x_aloadE_n d_Node_put_24 rfl rfl ?_ | refine x_aloadO_n d_Node_put_24 rfl rfl ?_
    first | refine x_putR d_Node_put_25 (w_Node_m_70 _) rfl (by assumption) ?_ | refine x_putN d_Node_put_25 (w_Node_m_70 _) rfl (by assumption) ?_ | refine x_putQ d_Node_put_25 (w_Node_m_70 _) rfl (by assumption) ?_
    exact x_return d_Node_put_28 rfl (by
      have h1 : isNd Γ (wR σ (133 + 5 * q) 6 (some (133 + 5 * n))) q _ := hM.wR (o := some n) (j := 6) rfl (lk48.s hn)
      have f1 : FrP (inN q) σ (wR σ (133 + 5 * q) 6 (some (133 + 5 * n))) := FrP.rf.wR ⟨by omega, by omega⟩
      have T1 := hT.up hq f1 h1
      have h2 : isNd Γ (wR (wR σ (133 + 5 * q) 6 (some (133 + 5 * n))) (133 + 5 * p) 5 (some (133 + 5 * n))) p _ := (T1.nd hp).wR (o := some n) (j := 5) rfl (lk48.s hn)
      have f2 : FrP (inN p) _ (wR (wR σ (133 + 5 * q) 6 (some (133 + 5 * n))) (133 + 5 * p) 5 (some (133 + 5 * n))) := FrP.rf.wR ⟨by omega, by omega⟩
      refine hQ _ ?_ ((f1.T hq).tr (f2.T hp))
      rw [tPut, hlb]
      exact T1.up hp f2 h2)
