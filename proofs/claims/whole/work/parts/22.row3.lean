/-! static functions of SuperDriver -/
def isV (s : Int32) : Bool := if s < 0 then false else if 100 ≤ s then false else true
def isK (s : Int32) : Bool := if s < 100 then false else if 106 ≤ s then false else true
def isC (s : Int32) : Bool := if s < 200 then false else true
def pK (c : Int32) : Int32 := if c < 0 then 0 else if 6 ≤ c then 0 else cPt c.toNatClampNeg
def sgn (l : Int32) : Int32 := if l < 97 then (if l < 75 then (if l < 48 then -1 else if 55 < l then -1 else 200 + l - 48) else if 80 < l then (if l < 48 then -1 else if 55 < l then -1 else 200 + l - 48) else 100 + l - 75) else if 104 < l then (if l < 75 then (if l < 48 then -1 else if 55 < l then -1 else 200 + l - 48) else if 80 < l then (if l < 48 then -1 else if 55 < l then -1 else 200 + l - 48) else 100 + l - 75) else l - 97
theorem in6 {c : Int32} (h0 : ¬ c < 0) (h : ¬ 6 ≤ c) : vp_in c 6 := by
  intro z
  rcases z with z | z
  · exact h0 z
  · exact h ((clamp_lt (n := 6) h0 (by decide)).mpr z)
set_option maxRecDepth 10000 in
set_option maxHeartbeats 1000000 in
theorem c_SD_isVariable {G : Ctx} {d : Nat} {Γ : List Sh} {σ : Mem} {Q : Option Value → List Sh → Mem → Prop} {s : Int32} (hQ : Q (some (.int (bI (isV s)))) Γ σ) : Ct G M_SD_isVariable d 0 0 [.int s] Γ σ Q := by
  refine Ct.of (lv := [some (.int s)]) (ll := []) rfl rfl (EN.cat (n := 0) ⟨rfl, trivial⟩ (Nat.le_of_ble_eq_true rfl)) ?_
  refine x_iload_n d_SD_isVariable_0 rfl rfl ?_
  refine x_if_lt (tgt := 14) d_SD_isVariable_1 (by decide) (fun c1 => ?_) (fun c1 => ?_)
  · refine x_iconst (v := 0) d_SD_isVariable_14 (by decide) ?_
    exact x_ireturn d_SD_isVariable_15 rfl (by first | rfl | decide) (by simpa [isV, bI, *] using hQ)
  · refine x_iload_n d_SD_isVariable_4 rfl rfl ?_
    refine x_bipush (v := 100) d_SD_isVariable_5 (by decide) ?_
    refine x_icmp_ge (tgt := 14) d_SD_isVariable_7 (by decide) (fun c7 => ?_) (fun c7 => ?_)
    · refine x_iconst (v := 0) d_SD_isVariable_14 (by decide) ?_
      exact x_ireturn d_SD_isVariable_15 rfl (by first | rfl | decide) (by simpa [isV, bI, *] using hQ)
    · refine x_iconst (v := 1) d_SD_isVariable_10 (by decide) ?_
      refine x_goto (tgt := 15) d_SD_isVariable_11 (by decide) ?_
      exact x_ireturn d_SD_isVariable_15 rfl (by first | rfl | decide) (by simpa [isV, bI, *] using hQ)
set_option maxRecDepth 10000 in
set_option maxHeartbeats 1000000 in
theorem c_SD_isConstructor {G : Ctx} {d : Nat} {Γ : List Sh} {σ : Mem} {Q : Option Value → List Sh → Mem → Prop} {s : Int32} (hQ : Q (some (.int (bI (isK s)))) Γ σ) : Ct G M_SD_isConstructor d 0 0 [.int s] Γ σ Q := by
  refine Ct.of (lv := [some (.int s)]) (ll := []) rfl rfl (EN.cat (n := 0) ⟨rfl, trivial⟩ (Nat.le_of_ble_eq_true rfl)) ?_
  refine x_iload_n d_SD_isConstructor_0 rfl rfl ?_
  refine x_bipush (v := 100) d_SD_isConstructor_1 (by decide) ?_
  refine x_icmp_lt (tgt := 16) d_SD_isConstructor_3 (by decide) (fun c3 => ?_) (fun c3 => ?_)
  · refine x_iconst (v := 0) d_SD_isConstructor_16 (by decide) ?_
    exact x_ireturn d_SD_isConstructor_17 rfl (by first | rfl | decide) (by simpa [isK, bI, *] using hQ)
  · refine x_iload_n d_SD_isConstructor_6 rfl rfl ?_
    refine x_bipush (v := 106) d_SD_isConstructor_7 (by decide) ?_
    refine x_icmp_ge (tgt := 16) d_SD_isConstructor_9 (by decide) (fun c9 => ?_) (fun c9 => ?_)
    · refine x_iconst (v := 0) d_SD_isConstructor_16 (by decide) ?_
      exact x_ireturn d_SD_isConstructor_17 rfl (by first | rfl | decide) (by simpa [isK, bI, *] using hQ)
    · refine x_iconst (v := 1) d_SD_isConstructor_12 (by decide) ?_
      refine x_goto (tgt := 17) d_SD_isConstructor_13 (by decide) ?_
      exact x_ireturn d_SD_isConstructor_17 rfl (by first | rfl | decide) (by simpa [isK, bI, *] using hQ)
set_option maxRecDepth 10000 in
set_option maxHeartbeats 1000000 in
theorem c_SD_isCall {G : Ctx} {d : Nat} {Γ : List Sh} {σ : Mem} {Q : Option Value → List Sh → Mem → Prop} {s : Int32} (hQ : Q (some (.int (bI (isC s)))) Γ σ) : Ct G M_SD_isCall d 0 0 [.int s] Γ σ Q := by
  refine Ct.of (lv := [some (.int s)]) (ll := []) rfl rfl (EN.cat (n := 0) ⟨rfl, trivial⟩ (Nat.le_of_ble_eq_true rfl)) ?_
  refine x_iload_n d_SD_isCall_0 rfl rfl ?_
  refine x_sipush (v := 200) d_SD_isCall_1 (by decide) ?_
  refine x_icmp_lt (tgt := 11) d_SD_isCall_4 (by decide) (fun c4 => ?_) (fun c4 => ?_)
  · refine x_iconst (v := 0) d_SD_isCall_11 (by decide) ?_
    exact x_ireturn d_SD_isCall_12 rfl (by first | rfl | decide) (by simpa [isC, bI, *] using hQ)
  · refine x_iconst (v := 1) d_SD_isCall_7 (by decide) ?_
    refine x_goto (tgt := 12) d_SD_isCall_8 (by decide) ?_
    exact x_ireturn d_SD_isCall_12 rfl (by first | rfl | decide) (by simpa [isC, bI, *] using hQ)
set_option maxRecDepth 10000 in
set_option maxHeartbeats 1000000 in
theorem c_SD_signOf {G : Ctx} {d : Nat} {Γ : List Sh} {σ : Mem} {Q : Option Value → List Sh → Mem → Prop} {s : Int32} (hQ : Q (some (.int (sgn s))) Γ σ) : Ct G M_SD_signOf d 0 0 [.int s] Γ σ Q := by
  refine Ct.of (lv := [some (.int s)]) (ll := []) rfl rfl (EN.cat (n := 0) ⟨rfl, trivial⟩ (Nat.le_of_ble_eq_true rfl)) ?_
  refine x_iload_n d_SD_signOf_0 rfl rfl ?_
  refine x_bipush (v := 97) d_SD_signOf_1 (by decide) ?_
  refine x_icmp_lt (tgt := 17) d_SD_signOf_3 (by decide) (fun c3 => ?_) (fun c3 => ?_)
  · refine x_iload_n d_SD_signOf_17 rfl rfl ?_
    refine x_bipush (v := 75) d_SD_signOf_18 (by decide) ?_
    refine x_icmp_lt (tgt := 37) d_SD_signOf_20 (by decide) (fun c20 => ?_) (fun c20 => ?_)
    · refine x_iload_n d_SD_signOf_37 rfl rfl ?_
      refine x_bipush (v := 48) d_SD_signOf_38 (by decide) ?_
      refine x_icmp_lt (tgt := 58) d_SD_signOf_40 (by decide) (fun c40 => ?_) (fun c40 => ?_)
      · refine x_iconst (v := -1) d_SD_signOf_58 (by decide) ?_
        exact x_ireturn d_SD_signOf_59 rfl (by first | rfl | decide) (by simpa [sgn, *] using hQ)
      · refine x_iload_n d_SD_signOf_43 rfl rfl ?_
        refine x_bipush (v := 55) d_SD_signOf_44 (by decide) ?_
        refine x_icmp_gt (tgt := 58) d_SD_signOf_46 (by decide) (fun c46 => ?_) (fun c46 => ?_)
        · refine x_iconst (v := -1) d_SD_signOf_58 (by decide) ?_
          exact x_ireturn d_SD_signOf_59 rfl (by first | rfl | decide) (by simpa [sgn, *] using hQ)
        · refine x_sipush (v := 200) d_SD_signOf_49 (by decide) ?_
          refine x_iload_n d_SD_signOf_52 rfl rfl ?_
          refine x_iadd d_SD_signOf_53 ?_
          refine x_bipush (v := 48) d_SD_signOf_54 (by decide) ?_
          refine x_isub d_SD_signOf_56 ?_
          exact x_ireturn d_SD_signOf_57 rfl (by first | rfl | decide) (by simpa [sgn, *] using hQ)
    · refine x_iload_n d_SD_signOf_23 rfl rfl ?_
      refine x_bipush (v := 80) d_SD_signOf_24 (by decide) ?_
      refine x_icmp_gt (tgt := 37) d_SD_signOf_26 (by decide) (fun c26 => ?_) (fun c26 => ?_)
      · refine x_iload_n d_SD_signOf_37 rfl rfl ?_
        refine x_bipush (v := 48) d_SD_signOf_38 (by decide) ?_
        refine x_icmp_lt (tgt := 58) d_SD_signOf_40 (by decide) (fun c40 => ?_) (fun c40 => ?_)
        · refine x_iconst (v := -1) d_SD_signOf_58 (by decide) ?_
          exact x_ireturn d_SD_signOf_59 rfl (by first | rfl | decide) (by simpa [sgn, *] using hQ)
        · refine x_iload_n d_SD_signOf_43 rfl rfl ?_
          refine x_bipush (v := 55) d_SD_signOf_44 (by decide) ?_
          refine x_icmp_gt (tgt := 58) d_SD_signOf_46 (by decide) (fun c46 => ?_) (fun c46 => ?_)
          · refine x_iconst (v := -1) d_SD_signOf_58 (by decide) ?_
            exact x_ireturn d_SD_signOf_59 rfl (by first | rfl | decide) (by simpa [sgn, *] using hQ)
          · refine x_sipush (v := 200) d_SD_signOf_49 (by decide) ?_
            refine x_iload_n d_SD_signOf_52 rfl rfl ?_
            refine x_iadd d_SD_signOf_53 ?_
            refine x_bipush (v := 48) d_SD_signOf_54 (by decide) ?_
            refine x_isub d_SD_signOf_56 ?_
            exact x_ireturn d_SD_signOf_57 rfl (by first | rfl | decide) (by simpa [sgn, *] using hQ)
      · refine x_bipush (v := 100) d_SD_signOf_29 (by decide) ?_
        refine x_iload_n d_SD_signOf_31 rfl rfl ?_
        refine x_iadd d_SD_signOf_32 ?_
        refine x_bipush (v := 75) d_SD_signOf_33 (by decide) ?_
        refine x_isub d_SD_signOf_35 ?_
        exact x_ireturn d_SD_signOf_36 rfl (by first | rfl | decide) (by simpa [sgn, *] using hQ)
  · refine x_iload_n d_SD_signOf_6 rfl rfl ?_
    refine x_bipush (v := 104) d_SD_signOf_7 (by decide) ?_
    refine x_icmp_gt (tgt := 17) d_SD_signOf_9 (by decide) (fun c9 => ?_) (fun c9 => ?_)
    · refine x_iload_n d_SD_signOf_17 rfl rfl ?_
      refine x_bipush (v := 75) d_SD_signOf_18 (by decide) ?_
      refine x_icmp_lt (tgt := 37) d_SD_signOf_20 (by decide) (fun c20 => ?_) (fun c20 => ?_)
      · refine x_iload_n d_SD_signOf_37 rfl rfl ?_
        refine x_bipush (v := 48) d_SD_signOf_38 (by decide) ?_
        refine x_icmp_lt (tgt := 58) d_SD_signOf_40 (by decide) (fun c40 => ?_) (fun c40 => ?_)
        · refine x_iconst (v := -1) d_SD_signOf_58 (by decide) ?_
          exact x_ireturn d_SD_signOf_59 rfl (by first | rfl | decide) (by simpa [sgn, *] using hQ)
        · refine x_iload_n d_SD_signOf_43 rfl rfl ?_
          refine x_bipush (v := 55) d_SD_signOf_44 (by decide) ?_
          refine x_icmp_gt (tgt := 58) d_SD_signOf_46 (by decide) (fun c46 => ?_) (fun c46 => ?_)
          · refine x_iconst (v := -1) d_SD_signOf_58 (by decide) ?_
            exact x_ireturn d_SD_signOf_59 rfl (by first | rfl | decide) (by simpa [sgn, *] using hQ)
          · refine x_sipush (v := 200) d_SD_signOf_49 (by decide) ?_
            refine x_iload_n d_SD_signOf_52 rfl rfl ?_
            refine x_iadd d_SD_signOf_53 ?_
            refine x_bipush (v := 48) d_SD_signOf_54 (by decide) ?_
            refine x_isub d_SD_signOf_56 ?_
            exact x_ireturn d_SD_signOf_57 rfl (by first | rfl | decide) (by simpa [sgn, *] using hQ)
      · refine x_iload_n d_SD_signOf_23 rfl rfl ?_
        refine x_bipush (v := 80) d_SD_signOf_24 (by decide) ?_
        refine x_icmp_gt (tgt := 37) d_SD_signOf_26 (by decide) (fun c26 => ?_) (fun c26 => ?_)
        · refine x_iload_n d_SD_signOf_37 rfl rfl ?_
          refine x_bipush (v := 48) d_SD_signOf_38 (by decide) ?_
          refine x_icmp_lt (tgt := 58) d_SD_signOf_40 (by decide) (fun c40 => ?_) (fun c40 => ?_)
          · refine x_iconst (v := -1) d_SD_signOf_58 (by decide) ?_
            exact x_ireturn d_SD_signOf_59 rfl (by first | rfl | decide) (by simpa [sgn, *] using hQ)
          · refine x_iload_n d_SD_signOf_43 rfl rfl ?_
            refine x_bipush (v := 55) d_SD_signOf_44 (by decide) ?_
            refine x_icmp_gt (tgt := 58) d_SD_signOf_46 (by decide) (fun c46 => ?_) (fun c46 => ?_)
            · refine x_iconst (v := -1) d_SD_signOf_58 (by decide) ?_
              exact x_ireturn d_SD_signOf_59 rfl (by first | rfl | decide) (by simpa [sgn, *] using hQ)
            · refine x_sipush (v := 200) d_SD_signOf_49 (by decide) ?_
              refine x_iload_n d_SD_signOf_52 rfl rfl ?_
              refine x_iadd d_SD_signOf_53 ?_
              refine x_bipush (v := 48) d_SD_signOf_54 (by decide) ?_
              refine x_isub d_SD_signOf_56 ?_
              exact x_ireturn d_SD_signOf_57 rfl (by first | rfl | decide) (by simpa [sgn, *] using hQ)
        · refine x_bipush (v := 100) d_SD_signOf_29 (by decide) ?_
          refine x_iload_n d_SD_signOf_31 rfl rfl ?_
          refine x_iadd d_SD_signOf_32 ?_
          refine x_bipush (v := 75) d_SD_signOf_33 (by decide) ?_
          refine x_isub d_SD_signOf_35 ?_
          exact x_ireturn d_SD_signOf_36 rfl (by first | rfl | decide) (by simpa [sgn, *] using hQ)
    · refine x_iload_n d_SD_signOf_12 rfl rfl ?_
      refine x_bipush (v := 97) d_SD_signOf_13 (by decide) ?_
      refine x_isub d_SD_signOf_15 ?_
      exact x_ireturn d_SD_signOf_16 rfl (by first | rfl | decide) (by simpa [sgn, *] using hQ)
set_option maxRecDepth 10000 in
set_option maxHeartbeats 1000000 in
theorem c_SD_partsOfConstructor {G : Ctx} {d : Nat} {Γ : List Sh} {σ : Mem} {Q : Option Value → List Sh → Mem → Prop} {c : Int32} (hQ : Q (some (.int (pK c))) Γ σ) : Ct G M_SD_partsOfConstructor d 0 0 [.int c] Γ σ Q := by
  refine Ct.of (lv := [some (.int c)]) (ll := []) rfl rfl (EN.cat (n := 0) ⟨rfl, trivial⟩ (Nat.le_of_ble_eq_true rfl)) ?_
  refine x_iload_n d_SD_partsOfConstructor_0 rfl rfl ?_
  refine x_if_lt (tgt := 18) d_SD_partsOfConstructor_1 (by decide) (fun c1 => ?_) (fun c1 => ?_)
  · refine x_iconst (v := 0) d_SD_partsOfConstructor_18 (by decide) ?_
    exact x_ireturn d_SD_partsOfConstructor_19 rfl (by first | rfl | decide) (by simpa [pK, *] using hQ)
  · refine x_iload_n d_SD_partsOfConstructor_4 rfl rfl ?_
    refine x_bipush (v := 6) d_SD_partsOfConstructor_5 (by decide) ?_
    refine x_icmp_ge (tgt := 18) d_SD_partsOfConstructor_7 (by decide) (fun c7 => ?_) (fun c7 => ?_)
    · refine x_iconst (v := 0) d_SD_partsOfConstructor_18 (by decide) ?_
      exact x_ireturn d_SD_partsOfConstructor_19 rfl (by first | rfl | decide) (by simpa [pK, *] using hQ)
    · refine x_getsCP d_SD_partsOfConstructor_10 ⟨tb3_in (i := 121) rfl, rfl⟩ (fun a0 ha => ?_)
      refine x_iload_n d_SD_partsOfConstructor_13 rfl rfl ?_
      refine x_cpald d_SD_partsOfConstructor_14 ha (in6 c1 c7) ?_
      refine x_goto (tgt := 19) d_SD_partsOfConstructor_15 (by decide) ?_
      exact x_ireturn d_SD_partsOfConstructor_19 rfl (by first | rfl | decide) (by simpa [pK, *] using hQ)
