/-! throws: a walk begun anew in the midst of a method -/
section Rebase
variable {p : Program} {l : Launch} {e : Env} {R R' : Room} {s : State} {m : MethodId} {args : Array Value} {below : List Frame} {meth : Method} {c : Code} {T : State} {locs : List Loc} {cells slots : Nat}
def anew (s T : State) : State := { s with heap := T.heap, slotsUsed := T.slotsUsed, vm := T.vm }
theorem rebase (X : Stand p l e R s m args below meth c T locs cells slots) (hc : cells + R'.cells ≤ R.cells) (hs : slots + R'.slots ≤ R.slots) (hf : R'.frames ≤ R.frames) (hl : R'.locals ≤ R.locals) : Stand p l e R' (anew s T) m args below meth c T [] 0 0 := by
  have hroom : (anew s T).hasRoom e.platform R' = true := by
    have h := X.room
    have h5 := X.book
    have h6 := X.heapSize
    have h7 := X.used
    simp only [State.hasRoom, Bool.and_eq_true, decide_eq_true_eq] at h ⊢
    obtain ⟨⟨⟨⟨a1, a2, a3, a4, a5, a6⟩, b⟩, d⟩, f⟩ := h
    have e1 : (anew s T).localsInUse = s.localsInUse := by
      unfold State.localsInUse
      rw [X.frames, show (anew s T).frames = Frame.invoking m args :: below from X.frames]
      show _ + ((((T.vm.method? m).bind (·.code)).map (·.maxLocals)).getD 0 + 11) = _ + ((((s.vm.method? m).bind (·.code)).map (·.maxLocals)).getD 0 + 11)
      rw [X.warmed.alike.method?]
    have e2 : (anew s T).frames = s.frames := rfl
    have e3 : (anew s T).me = s.me := rfl
    rw [e1, e2, e3]
    refine ⟨⟨⟨⟨by omega, by omega, by omega, by omega, by omega, a6⟩, ?_⟩, ?_⟩, h5⟩
    · show T.heap.size + R'.cells ≤ _; omega
    · show T.slotsUsed + R'.slots ≤ _; omega
  have hears : (anew s T).hears m below = true := by
    have h := X.hears
    unfold State.hears at h ⊢
    split at h
    · next g r =>
      have e1 : (anew s T).code? g.method = s.code? g.method := by
        rw [State.code?_eq, State.code?_eq]
        show (T.vm.method? g.method).bind _ = _
        rw [X.warmed.alike.method?]
      rw [e1]; exact h
    · rfl
    · rfl
    · next h1 h2 h3 =>
      show (T.vm.method? m).any _ = true
      rw [X.warmed.alike.method?]; exact h
  have hsame : (anew s T).sameButNew (T.setVm (anew s T).vm) [] 0 0 := by
    have h1 := X.same.1
    refine ⟨?_, Nat.le_refl _, Nat.le_refl _, ?_, ?_, fun a c hac => ⟨c, hac, rfl, rfl, fun _ _ => rfl⟩⟩
    · have h2 : T = (T.setVm s.vm).setVm T.vm := rfl
      show T.setVm T.vm = _
      have h3 : T.setVm T.vm = (T.setVm s.vm).setVm T.vm := rfl
      rw [h3, h1]
      rfl
    · show T.slotsUsed = T.slotsUsed + ((T.heap.toList.drop T.heap.size).map (·.slots.size)).sum
      rw [List.drop_eq_nil_of_le (by simp)]
      rfl
    · show ((T.heap.toList.drop T.heap.size).map (·.slots.size)).sum ≤ 0
      rw [List.drop_eq_nil_of_le (by simp)]
      exact Nat.le_refl _
  exact ⟨X.admits, X.cas, X.clock, X.frames, hroom, hears, X.method', X.code, X.here, X.tail, State.WarmedH.refl _, X.limits, X.bytes, hsame⟩
end Rebase
/-! the words that a throw wants -/
def exNames : List String := ["java/lang/RuntimeException", "java/lang/Exception"]
def faceW : Cond → Bool
  | .declares _ => true
  | .castable _ _ => true
  | .laysStatic _ _ _ => true
  | _ => false
theorem decl_at {args A : Array Value} {U s : State} {x : MethodName} (hW : U.WarmedH s.vm) (h : (Cond.declares x).before A U = true) : (Cond.declares x).before args s = true := by
  have h1 : (Cond.declares x).before A (U.setVm s.vm) = true := Cond.before_shiftedFace (State.Shifted.of_warmed hW) _ rfl h
  exact h1
theorem cast_at {args A : Array Value} {U s : State} {x y : String} (hW : U.WarmedH s.vm) (h : (Cond.castable x y).before A U = true) : (Cond.castable x y).before args s = true := by
  have h1 : (Cond.castable x y).before A (U.setVm s.vm) = true := Cond.before_shiftedFace (State.Shifted.of_warmed hW) _ rfl h
  exact h1
theorem lays_at {args A : Array Value} {U s : State} {x y z : String} (hW : U.WarmedH s.vm) (ho : ∀ q : Nat, q < U.heap.size → s.heap[q]? = U.heap[q]?) (h : (Cond.laysStatic x y z).before A U = true) : (Cond.laysStatic x y z).before args s = true := by
  have h1 : (Cond.laysStatic x y z).before A (U.setVm s.vm) = true := Cond.before_shiftedFace (State.Shifted.of_warmed hW) _ rfl h
  have ef : (U.setVm s.vm).fieldFound? x y z = s.fieldFound? x y z := rfl
  have ev : (U.setVm s.vm).vm = s.vm := rfl
  have eh : (U.setVm s.vm).heap = U.heap := rfl
  simp only [Cond.before, Cond.holds, Cond.value, ef, ev, eh] at h1 ⊢
  split at h1
  · next c c' k i f hc hf =>
    rcases hk : k.statics with _ | a
    · rw [hk] at h1; cases h1
    · rw [hk] at h1
      rcases hcell : U.heap[a]? with _ | cell
      · simp [hcell] at h1
      · have hlt : a < U.heap.size := (Array.getElem?_eq_some_iff.mp hcell).1
        have := ho a hlt
        simp [hcell] at h1
        simp [hk, this, hcell]
        exact h1
  · cases h1
theorem stat_at {args A : Array Value} {U s : State} {x y z : String} (hW : U.WarmedH s.vm) (ho : ∀ q : Nat, q < U.heap.size → s.heap[q]? = U.heap[q]?) (h : (Cond.isRef (.static x y z)).before A U = true) : (Cond.isRef (.static x y z)).before args s = true := by
  have h1 : (Cond.isRef (.static x y z)).before A (U.setVm s.vm) = true := Cond.before_shiftedFace (State.Shifted.of_warmed hW) _ rfl h
  have key : ∀ v, (Term.static x y z).eval A (U.setVm s.vm) none [] (U.setVm s.vm) = some v → (Term.static x y z).eval args s none [] s = some v := by
    intro v hv
    have ef : (U.setVm s.vm).fieldNamed? x y z true = s.fieldNamed? x y z true := rfl
    have eh : (U.setVm s.vm).heap = U.heap := rfl
    simp only [Term.eval, ef, eh] at hv ⊢
    rcases hf : s.fieldNamed? x y z true with _ | ⟨i, k, slot⟩
    · rw [hf] at hv; cases hv
    · rw [hf] at hv
      simp only [Option.bind_eq_bind, Option.bind_some] at hv ⊢
      rcases hk : k.statics with _ | a
      · rw [hk] at hv; cases hv
      · rw [hk] at hv
        simp only [Option.bind_some] at hv ⊢
        rcases hcell : U.heap[a]? with _ | cell
        · rw [hcell] at hv; cases hv
        · have hlt : a < U.heap.size := (Array.getElem?_eq_some_iff.mp hcell).1
          rw [ho a hlt]
          exact hv
  simp only [Cond.before, Cond.holds, Cond.value] at h1 ⊢
  rcases hv : (Term.static x y z).eval A (U.setVm s.vm) none [] (U.setVm s.vm) with _ | v
  · rw [hv] at h1; cases h1
  · rw [hv] at h1
    rw [key v hv]
    exact h1
theorem str_at {A : Array Value} {U : State} {own tx : String} {k : Nat} (h : (Cond.stringRef own k tx).before A U = true) : ∃ a, vk_R own k tx a U := by
  have h2 := h
  simp only [Cond.before, Cond.holds, Cond.value] at h2
  rcases hc : U.vm.findClass own with _ | c
  · rw [hc] at h2; cases h2
  · rw [hc] at h2
    obtain ⟨k', cf, i, a, -, -, -, -, -, hev⟩ := Cond.stringRef_spec hc h
    exact ⟨a, vk_R.of (A := A) h hev⟩
theorem own_IAE : Bundle.ownAtoms "SuperDriver" 101 "java/lang/IllegalArgumentException" exNames = (Bundle.ownAtoms "SuperDriver" 101 "java/lang/IllegalArgumentException" exNames).take 52 ++ ([Cond.isRef (.static Bundle.tN "UNASSIGNED_STACK" Bundle.steD), Cond.isRef (.static Bundle.tN "SUPPRESSED_SENTINEL" Bundle.listD)] ++ (Bundle.ownAtoms "SuperDriver" 101 "java/lang/IllegalArgumentException" exNames).drop 54) := rfl
theorem ownA_IAE : ∀ w ∈ (Bundle.ownAtoms "SuperDriver" 101 "java/lang/IllegalArgumentException" exNames).take 52, w ∈ lw_tbl := List.forall_mem_cons.mpr ⟨tb1_in (i := 15) rfl, List.forall_mem_cons.mpr ⟨tb3_in (i := 31) rfl, List.forall_mem_cons.mpr ⟨tb3_in (i := 40) rfl, List.forall_mem_cons.mpr ⟨tb3_in (i := 44) rfl, List.forall_mem_cons.mpr ⟨tb3_in (i := 47) rfl, List.forall_mem_cons.mpr ⟨tb3_in (i := 49) rfl, List.forall_mem_cons.mpr ⟨tb3_in (i := 32) rfl, List.forall_mem_cons.mpr ⟨tb3_in (i := 33) rfl, List.forall_mem_cons.mpr ⟨tb1_in (i := 28) rfl, List.forall_mem_cons.mpr ⟨tb1_in (i := 29) rfl, List.forall_mem_cons.mpr ⟨tb3_in (i := 34) rfl, List.forall_mem_cons.mpr ⟨tb3_in (i := 39) rfl, List.forall_mem_cons.mpr ⟨tb3_in (i := 45) rfl, List.forall_mem_cons.mpr ⟨tb3_in (i := 65) rfl, List.forall_mem_cons.mpr ⟨tb3_in (i := 21) rfl, List.forall_mem_cons.mpr ⟨tb3_in (i := 66) rfl, List.forall_mem_cons.mpr ⟨tb3_in (i := 23) rfl, List.forall_mem_cons.mpr ⟨tb3_in (i := 67) rfl, List.forall_mem_cons.mpr ⟨tb3_in (i := 25) rfl, List.forall_mem_cons.mpr ⟨tb3_in (i := 35) rfl, List.forall_mem_cons.mpr ⟨tb3_in (i := 36) rfl, List.forall_mem_cons.mpr ⟨tb3_in (i := 37) rfl, List.forall_mem_cons.mpr ⟨tb3_in (i := 38) rfl, List.forall_mem_cons.mpr ⟨tb3_in (i := 27) rfl, List.forall_mem_cons.mpr ⟨tb3_in (i := 61) rfl, List.forall_mem_cons.mpr ⟨tb3_in (i := 62) rfl, List.forall_mem_cons.mpr ⟨tb3_in (i := 64) rfl, List.forall_mem_cons.mpr ⟨tb3_in (i := 27) rfl, List.forall_mem_cons.mpr ⟨tb3_in (i := 52) rfl, List.forall_mem_cons.mpr ⟨tb3_in (i := 53) rfl, List.forall_mem_cons.mpr ⟨tb3_in (i := 54) rfl, List.forall_mem_cons.mpr ⟨tb3_in (i := 55) rfl, List.forall_mem_cons.mpr ⟨tb3_in (i := 13) rfl, List.forall_mem_cons.mpr ⟨tb3_in (i := 55) rfl, List.forall_mem_cons.mpr ⟨tb3_in (i := 56) rfl, List.forall_mem_cons.mpr ⟨tb3_in (i := 57) rfl, List.forall_mem_cons.mpr ⟨tb3_in (i := 58) rfl, List.forall_mem_cons.mpr ⟨tb3_in (i := 15) rfl, List.forall_mem_cons.mpr ⟨tb3_in (i := 58) rfl, List.forall_mem_cons.mpr ⟨tb3_in (i := 59) rfl, List.forall_mem_cons.mpr ⟨tb3_in (i := 60) rfl, List.forall_mem_cons.mpr ⟨tb3_in (i := 61) rfl, List.forall_mem_cons.mpr ⟨tb3_in (i := 17) rfl, List.forall_mem_cons.mpr ⟨tb3_in (i := 51) rfl, List.forall_mem_cons.mpr ⟨tb3_in (i := 10) rfl, List.forall_mem_cons.mpr ⟨tb3_in (i := 11) rfl, List.forall_mem_cons.mpr ⟨tb3_in (i := 18) rfl, List.forall_mem_cons.mpr ⟨tb3_in (i := 19) rfl, List.forall_mem_cons.mpr ⟨tb3_in (i := 20) rfl, List.forall_mem_cons.mpr ⟨tb3_in (i := 22) rfl, List.forall_mem_cons.mpr ⟨tb3_in (i := 24) rfl, List.forall_mem_cons.mpr ⟨tb3_in (i := 26) rfl, (fun _ h => absurd h (List.not_mem_nil))⟩⟩⟩⟩⟩⟩⟩⟩⟩⟩⟩⟩⟩⟩⟩⟩⟩⟩⟩⟩⟩⟩⟩⟩⟩⟩⟩⟩⟩⟩⟩⟩⟩⟩⟩⟩⟩⟩⟩⟩⟩⟩⟩⟩⟩⟩⟩⟩⟩⟩⟩⟩
theorem ownB_IAE : ∀ w ∈ (Bundle.ownAtoms "SuperDriver" 101 "java/lang/IllegalArgumentException" exNames).drop 54, w ∈ lw_tbl := List.forall_mem_cons.mpr ⟨tb3_in (i := 30) rfl, List.forall_mem_cons.mpr ⟨tb3_in (i := 29) rfl, List.forall_mem_cons.mpr ⟨tb3_in (i := 28) rfl, (fun _ h => absurd h (List.not_mem_nil))⟩⟩⟩
theorem ownG_IAE : ((Bundle.ownAtoms "SuperDriver" 101 "java/lang/IllegalArgumentException" exNames).take 52 ++ (Bundle.ownAtoms "SuperDriver" 101 "java/lang/IllegalArgumentException" exNames).drop 54).all (fun w => goodWord w || faceW w) = true := rfl
theorem own_ISE : Bundle.ownAtoms "SuperDriver" 112 "java/lang/IllegalStateException" exNames = (Bundle.ownAtoms "SuperDriver" 112 "java/lang/IllegalStateException" exNames).take 52 ++ ([Cond.isRef (.static Bundle.tN "UNASSIGNED_STACK" Bundle.steD), Cond.isRef (.static Bundle.tN "SUPPRESSED_SENTINEL" Bundle.listD)] ++ (Bundle.ownAtoms "SuperDriver" 112 "java/lang/IllegalStateException" exNames).drop 54) := rfl
theorem ownA_ISE : ∀ w ∈ (Bundle.ownAtoms "SuperDriver" 112 "java/lang/IllegalStateException" exNames).take 52, w ∈ lw_tbl := List.forall_mem_cons.mpr ⟨tb1_in (i := 15) rfl, List.forall_mem_cons.mpr ⟨tb3_in (i := 31) rfl, List.forall_mem_cons.mpr ⟨tb3_in (i := 40) rfl, List.forall_mem_cons.mpr ⟨tb3_in (i := 44) rfl, List.forall_mem_cons.mpr ⟨tb3_in (i := 47) rfl, List.forall_mem_cons.mpr ⟨tb3_in (i := 49) rfl, List.forall_mem_cons.mpr ⟨tb3_in (i := 32) rfl, List.forall_mem_cons.mpr ⟨tb3_in (i := 33) rfl, List.forall_mem_cons.mpr ⟨tb1_in (i := 28) rfl, List.forall_mem_cons.mpr ⟨tb1_in (i := 29) rfl, List.forall_mem_cons.mpr ⟨tb3_in (i := 34) rfl, List.forall_mem_cons.mpr ⟨tb3_in (i := 39) rfl, List.forall_mem_cons.mpr ⟨tb3_in (i := 45) rfl, List.forall_mem_cons.mpr ⟨tb3_in (i := 65) rfl, List.forall_mem_cons.mpr ⟨tb3_in (i := 21) rfl, List.forall_mem_cons.mpr ⟨tb3_in (i := 66) rfl, List.forall_mem_cons.mpr ⟨tb3_in (i := 23) rfl, List.forall_mem_cons.mpr ⟨tb3_in (i := 67) rfl, List.forall_mem_cons.mpr ⟨tb3_in (i := 25) rfl, List.forall_mem_cons.mpr ⟨tb3_in (i := 35) rfl, List.forall_mem_cons.mpr ⟨tb3_in (i := 36) rfl, List.forall_mem_cons.mpr ⟨tb3_in (i := 37) rfl, List.forall_mem_cons.mpr ⟨tb3_in (i := 38) rfl, List.forall_mem_cons.mpr ⟨tb3_in (i := 27) rfl, List.forall_mem_cons.mpr ⟨tb3_in (i := 61) rfl, List.forall_mem_cons.mpr ⟨tb3_in (i := 62) rfl, List.forall_mem_cons.mpr ⟨tb3_in (i := 64) rfl, List.forall_mem_cons.mpr ⟨tb3_in (i := 27) rfl, List.forall_mem_cons.mpr ⟨tb3_in (i := 93) rfl, List.forall_mem_cons.mpr ⟨tb3_in (i := 94) rfl, List.forall_mem_cons.mpr ⟨tb3_in (i := 95) rfl, List.forall_mem_cons.mpr ⟨tb3_in (i := 55) rfl, List.forall_mem_cons.mpr ⟨tb3_in (i := 13) rfl, List.forall_mem_cons.mpr ⟨tb3_in (i := 55) rfl, List.forall_mem_cons.mpr ⟨tb3_in (i := 56) rfl, List.forall_mem_cons.mpr ⟨tb3_in (i := 57) rfl, List.forall_mem_cons.mpr ⟨tb3_in (i := 58) rfl, List.forall_mem_cons.mpr ⟨tb3_in (i := 15) rfl, List.forall_mem_cons.mpr ⟨tb3_in (i := 58) rfl, List.forall_mem_cons.mpr ⟨tb3_in (i := 59) rfl, List.forall_mem_cons.mpr ⟨tb3_in (i := 60) rfl, List.forall_mem_cons.mpr ⟨tb3_in (i := 61) rfl, List.forall_mem_cons.mpr ⟨tb3_in (i := 17) rfl, List.forall_mem_cons.mpr ⟨tb3_in (i := 92) rfl, List.forall_mem_cons.mpr ⟨tb3_in (i := 83) rfl, List.forall_mem_cons.mpr ⟨tb3_in (i := 84) rfl, List.forall_mem_cons.mpr ⟨tb3_in (i := 85) rfl, List.forall_mem_cons.mpr ⟨tb3_in (i := 42) rfl, List.forall_mem_cons.mpr ⟨tb3_in (i := 86) rfl, List.forall_mem_cons.mpr ⟨tb3_in (i := 87) rfl, List.forall_mem_cons.mpr ⟨tb3_in (i := 88) rfl, List.forall_mem_cons.mpr ⟨tb3_in (i := 89) rfl, (fun _ h => absurd h (List.not_mem_nil))⟩⟩⟩⟩⟩⟩⟩⟩⟩⟩⟩⟩⟩⟩⟩⟩⟩⟩⟩⟩⟩⟩⟩⟩⟩⟩⟩⟩⟩⟩⟩⟩⟩⟩⟩⟩⟩⟩⟩⟩⟩⟩⟩⟩⟩⟩⟩⟩⟩⟩⟩⟩
theorem ownB_ISE : ∀ w ∈ (Bundle.ownAtoms "SuperDriver" 112 "java/lang/IllegalStateException" exNames).drop 54, w ∈ lw_tbl := List.forall_mem_cons.mpr ⟨tb3_in (i := 30) rfl, List.forall_mem_cons.mpr ⟨tb3_in (i := 29) rfl, List.forall_mem_cons.mpr ⟨tb3_in (i := 90) rfl, (fun _ h => absurd h (List.not_mem_nil))⟩⟩⟩
theorem ownG_ISE : ((Bundle.ownAtoms "SuperDriver" 112 "java/lang/IllegalStateException" exNames).take 52 ++ (Bundle.ownAtoms "SuperDriver" 112 "java/lang/IllegalStateException" exNames).drop 54).all (fun w => goodWord w || faceW w) = true := rfl
theorem own_UOE : Bundle.ownAtoms "SuperDriver" 167 "java/lang/UnsupportedOperationException" exNames = (Bundle.ownAtoms "SuperDriver" 167 "java/lang/UnsupportedOperationException" exNames).take 52 ++ ([Cond.isRef (.static Bundle.tN "UNASSIGNED_STACK" Bundle.steD), Cond.isRef (.static Bundle.tN "SUPPRESSED_SENTINEL" Bundle.listD)] ++ (Bundle.ownAtoms "SuperDriver" 167 "java/lang/UnsupportedOperationException" exNames).drop 54) := rfl
theorem ownA_UOE : ∀ w ∈ (Bundle.ownAtoms "SuperDriver" 167 "java/lang/UnsupportedOperationException" exNames).take 52, w ∈ lw_tbl := List.forall_mem_cons.mpr ⟨tb1_in (i := 15) rfl, List.forall_mem_cons.mpr ⟨tb3_in (i := 31) rfl, List.forall_mem_cons.mpr ⟨tb3_in (i := 40) rfl, List.forall_mem_cons.mpr ⟨tb3_in (i := 44) rfl, List.forall_mem_cons.mpr ⟨tb3_in (i := 47) rfl, List.forall_mem_cons.mpr ⟨tb3_in (i := 49) rfl, List.forall_mem_cons.mpr ⟨tb3_in (i := 32) rfl, List.forall_mem_cons.mpr ⟨tb3_in (i := 33) rfl, List.forall_mem_cons.mpr ⟨tb1_in (i := 28) rfl, List.forall_mem_cons.mpr ⟨tb1_in (i := 29) rfl, List.forall_mem_cons.mpr ⟨tb3_in (i := 34) rfl, List.forall_mem_cons.mpr ⟨tb3_in (i := 39) rfl, List.forall_mem_cons.mpr ⟨tb3_in (i := 45) rfl, List.forall_mem_cons.mpr ⟨tb3_in (i := 65) rfl, List.forall_mem_cons.mpr ⟨tb3_in (i := 21) rfl, List.forall_mem_cons.mpr ⟨tb3_in (i := 66) rfl, List.forall_mem_cons.mpr ⟨tb3_in (i := 23) rfl, List.forall_mem_cons.mpr ⟨tb3_in (i := 67) rfl, List.forall_mem_cons.mpr ⟨tb3_in (i := 25) rfl, List.forall_mem_cons.mpr ⟨tb3_in (i := 35) rfl, List.forall_mem_cons.mpr ⟨tb3_in (i := 36) rfl, List.forall_mem_cons.mpr ⟨tb3_in (i := 37) rfl, List.forall_mem_cons.mpr ⟨tb3_in (i := 38) rfl, List.forall_mem_cons.mpr ⟨tb3_in (i := 27) rfl, List.forall_mem_cons.mpr ⟨tb3_in (i := 61) rfl, List.forall_mem_cons.mpr ⟨tb3_in (i := 62) rfl, List.forall_mem_cons.mpr ⟨tb3_in (i := 64) rfl, List.forall_mem_cons.mpr ⟨tb3_in (i := 27) rfl, List.forall_mem_cons.mpr ⟨tb4_in (i := 221) rfl, List.forall_mem_cons.mpr ⟨tb4_in (i := 222) rfl, List.forall_mem_cons.mpr ⟨tb4_in (i := 223) rfl, List.forall_mem_cons.mpr ⟨tb3_in (i := 55) rfl, List.forall_mem_cons.mpr ⟨tb3_in (i := 13) rfl, List.forall_mem_cons.mpr ⟨tb3_in (i := 55) rfl, List.forall_mem_cons.mpr ⟨tb3_in (i := 56) rfl, List.forall_mem_cons.mpr ⟨tb3_in (i := 57) rfl, List.forall_mem_cons.mpr ⟨tb3_in (i := 58) rfl, List.forall_mem_cons.mpr ⟨tb3_in (i := 15) rfl, List.forall_mem_cons.mpr ⟨tb3_in (i := 58) rfl, List.forall_mem_cons.mpr ⟨tb3_in (i := 59) rfl, List.forall_mem_cons.mpr ⟨tb3_in (i := 60) rfl, List.forall_mem_cons.mpr ⟨tb3_in (i := 61) rfl, List.forall_mem_cons.mpr ⟨tb3_in (i := 17) rfl, List.forall_mem_cons.mpr ⟨tb4_in (i := 220) rfl, List.forall_mem_cons.mpr ⟨tb4_in (i := 211) rfl, List.forall_mem_cons.mpr ⟨tb4_in (i := 212) rfl, List.forall_mem_cons.mpr ⟨tb4_in (i := 213) rfl, List.forall_mem_cons.mpr ⟨tb3_in (i := 43) rfl, List.forall_mem_cons.mpr ⟨tb4_in (i := 214) rfl, List.forall_mem_cons.mpr ⟨tb4_in (i := 215) rfl, List.forall_mem_cons.mpr ⟨tb4_in (i := 216) rfl, List.forall_mem_cons.mpr ⟨tb4_in (i := 217) rfl, (fun _ h => absurd h (List.not_mem_nil))⟩⟩⟩⟩⟩⟩⟩⟩⟩⟩⟩⟩⟩⟩⟩⟩⟩⟩⟩⟩⟩⟩⟩⟩⟩⟩⟩⟩⟩⟩⟩⟩⟩⟩⟩⟩⟩⟩⟩⟩⟩⟩⟩⟩⟩⟩⟩⟩⟩⟩⟩⟩
theorem ownB_UOE : ∀ w ∈ (Bundle.ownAtoms "SuperDriver" 167 "java/lang/UnsupportedOperationException" exNames).drop 54, w ∈ lw_tbl := List.forall_mem_cons.mpr ⟨tb3_in (i := 30) rfl, List.forall_mem_cons.mpr ⟨tb3_in (i := 29) rfl, List.forall_mem_cons.mpr ⟨tb4_in (i := 218) rfl, (fun _ h => absurd h (List.not_mem_nil))⟩⟩⟩
theorem ownG_UOE : ((Bundle.ownAtoms "SuperDriver" 167 "java/lang/UnsupportedOperationException" exNames).take 52 ++ (Bundle.ownAtoms "SuperDriver" 167 "java/lang/UnsupportedOperationException" exNames).drop 54).all (fun w => goodWord w || faceW w) = true := rfl
theorem face_at {G : Ctx} {M : Mth} {p : Program} {s : State} {m : MethodId} {meth : Method} {c : Code} (C : Cx G M p s m meth c) {args : Array Value} {w : Cond} (h : w ∈ lw_tbl) (hg : (goodWord w || faceW w) = true) : w.before args s = true := by
  by_cases g : goodWord w = true
  · exact C.wd h g
  · rw [Bool.not_eq_true] at g
    rw [g, Bool.false_or] at hg
    have h0 := C.ok.1 w h
    cases w with
    | declares x => exact decl_at C.warm h0
    | castable x y => exact cast_at C.warm h0
    | laysStatic x y z => exact lays_at C.warm (fun q hq => C.out q hq) h0
    | _ => cases hg
theorem own_at {G : Ctx} {M : Mth} {p : Program} {s : State} {m : MethodId} {meth : Method} {c : Code} (C : Cx G M p s m meth c) {args : Array Value} {L : List Cond} (h1 : L = L.take 52 ++ ([Cond.isRef (.static Bundle.tN "UNASSIGNED_STACK" Bundle.steD), Cond.isRef (.static Bundle.tN "SUPPRESSED_SENTINEL" Bundle.listD)] ++ L.drop 54)) (h2 : ∀ w ∈ L.take 52, w ∈ lw_tbl) (h3 : ∀ w ∈ L.drop 54, w ∈ lw_tbl) (h4 : (L.take 52 ++ L.drop 54).all (fun w => goodWord w || faceW w) = true) : ∀ w ∈ L, w.before args s = true := by
  have hs := flat_of_before _ C.ok.2.2.1
  intro w hw
  rw [h1] at hw
  have hg := List.all_eq_true.mp h4
  rcases List.mem_append.mp hw with h | h
  · exact face_at C (h2 w h) (hg w (List.mem_append_left _ h))
  · rcases List.mem_append.mp h with h | h
    · simp only [List.mem_cons, List.not_mem_nil, or_false] at h
      rcases h with rfl | rfl
      · exact stat_at C.warm (fun q hq => C.out q hq) (hs (Cond.isRef (.static Bundle.tN "UNASSIGNED_STACK" Bundle.steD)) (by decide +kernel))
      · exact stat_at C.warm (fun q hq => C.out q hq) (hs (Cond.isRef (.static Bundle.tN "SUPPRESSED_SENTINEL" Bundle.listD)) (by decide +kernel))
    · exact face_at C (h3 w h) (hg w (List.mem_append_right _ h))
