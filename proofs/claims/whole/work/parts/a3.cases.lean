/-! the cases of the law -/
theorem wL_v {σ : Mem} {a j : Nat} {v : Int64} : (wL σ a j v).2.2 a j = v := by simp [wL]
theorem z_Law_function : gd (.static (my M_Law_function)) := ⟨tb3_in (i := 1) rfl, rfl⟩
theorem z_Law_body : gd (.static (my M_Law_body)) := ⟨tb3_in (i := 103) rfl, rfl⟩
theorem z_Law_goal : gd (.static (my M_Law_goal)) := ⟨tb3_in (i := 139) rfl, rfl⟩
theorem z_Law_drive : gd (.static (my M_Law_drive)) := ⟨tb3_in (i := 148) rfl, rfl⟩
theorem z_Law_run : gd (.static (my M_Law_run)) := ⟨tb4_in (i := 227) rfl, rfl⟩
set_option maxRecDepth 10000 in
set_option maxHeartbeats 1000000 in
theorem lc_type {G : Ctx} {bc bs a L i K : Nat} {sc : Nat → Int32} {Γ : List Sh} {σ : Mem} {X : CS} {o5 o6 : Option Value} (hS : Scr G a L sc) (hi : i + 4 ≤ L) (hL : L ≤ 1000000) (hJ : JS Γ σ K X) (hK : K + 1100 < 1000000000) (hN : ∀ Γ' σ' X' o5' o6', JS Γ' σ' (K + 1100) X' → Wq G M_Law_law (Elw G) bc bs 637 [some (.ref a), some (rf G 0), some (rf G 391), some (rf G 426), some (.int (nI i)), o5', o6'] [] [] Γ' σ') : Wq G M_Law_law (Elw G) (bc + 1) (bs + 6) 108 [some (.ref a), some (rf G 0), some (rf G 391), some (rf G 426), some (.int (nI i)), o5, o6] [] [] Γ σ := by
  refine Wq.bud (bc := bc) (bs := bs) (by omega) (by omega) ?_
  first | refine x_aload_n d_Law_law_108 rfl rfl ?_ | refine x_aloadN_n d_Law_law_108 rfl rfl ?_ | refine x_aloadE_n d_Law_law_108 rfl rfl ?_ | refine x_aloadO_n d_Law_law_108 rfl rfl ?_
  refine x_aloadE_n d_Law_law_109 rfl rfl ?_
  refine x_iload d_Law_law_110 rfl ?_
  refine x_iconst (v := 1) d_Law_law_112 (by decide) ?_
  refine x_iadd d_Law_law_113 ?_
  refine Wq.top (y := nI (i + 1)) (nI_add i 1) ?_
  refine x_scld d_Law_law_114 hS (show i + 1 < L by omega) (by omega) ?_
  refine x_i2l d_Law_law_115 ?_
  refine x_bipush (v := 32) d_Law_law_116 (by decide) ?_
  refine x_lshl d_Law_law_118 ?_
  refine x_aloadE_n d_Law_law_119 rfl rfl ?_
  refine x_iload d_Law_law_120 rfl ?_
  refine x_iconst (v := 2) d_Law_law_122 (by decide) ?_
  refine x_iadd d_Law_law_123 ?_
  refine Wq.top (y := nI (i + 2)) (nI_add i 2) ?_
  refine x_scld d_Law_law_124 hS (show i + 2 < L by omega) (by omega) ?_
  refine x_i2l d_Law_law_125 ?_
  refine x_ldc2 d_Law_law_126 kl_Law ?_
  refine x_land d_Law_law_129 ?_
  refine x_lor d_Law_law_130 ?_
  refine x_callV1 d_Law_law_131 k_SD_type l_Law_40 v_SD_type rfl s_SD_type (by first | exact hJ.1.1.1 | exact hJ.2.1.1.1 | exact hM1.1.1 | exact hJ2.2.1.1.1) RoomE.l (Nat.le_of_ble_eq_true rfl) (c_SD_type hJ.1 (fun σ1 h1 f1 => ?_))
  have hM1 := hJ.2.1.cls f1
  first | refine x_aload_n d_Law_law_134 rfl rfl ?_ | refine x_aloadN_n d_Law_law_134 rfl rfl ?_ | refine x_aloadE_n d_Law_law_134 rfl rfl ?_ | refine x_aloadO_n d_Law_law_134 rfl rfl ?_
  refine x_aloadE_n d_Law_law_135 rfl rfl ?_
  refine x_iload d_Law_law_136 rfl ?_
  refine x_iconst (v := 1) d_Law_law_138 (by decide) ?_
  refine x_iadd d_Law_law_139 ?_
  refine Wq.top (y := nI (i + 1)) (nI_add i 1) ?_
  refine x_scld d_Law_law_140 hS (show i + 1 < L by omega) (by omega) ?_
  refine x_i2l d_Law_law_141 ?_
  refine x_bipush (v := 32) d_Law_law_142 (by decide) ?_
  refine x_lshl d_Law_law_144 ?_
  refine x_aloadE_n d_Law_law_145 rfl rfl ?_
  refine x_iload d_Law_law_146 rfl ?_
  refine x_iconst (v := 2) d_Law_law_148 (by decide) ?_
  refine x_iadd d_Law_law_149 ?_
  refine Wq.top (y := nI (i + 2)) (nI_add i 2) ?_
  refine x_scld d_Law_law_150 hS (show i + 2 < L by omega) (by omega) ?_
  refine x_i2l d_Law_law_151 ?_
  refine x_ldc2 d_Law_law_152 kl_Law ?_
  refine x_land d_Law_law_155 ?_
  refine x_lor d_Law_law_156 ?_
  refine x_callV1 d_Law_law_157 k_Mo_type l_Law_44 v_Mo_type rfl s_Mo_type (by first | exact hJ.1.1.1 | exact hJ.2.1.1.1 | exact hM1.1.1 | exact hJ2.2.1.1.1) RoomE.l (Nat.le_of_ble_eq_true rfl) (c_Mo_type hM1.1 hM1.2.1 hM1.2.2.2.1.2 (fun σ2 m1 u1 t1 f2 => ?_))
  have hJ2 := hJ.step h1 f1 m1 (hM1.2.2.1.tr u1).typ hM1.2.2.2.typ f2
  refine x_icmp_eq (tgt := 637) d_Law_law_160 (by decide) (fun c160 => ?_) (fun c160 => ?_)
  · exact hN _ _ _ _ _ (hJ2.mK (by omega))
  · exact absurd rfl c160
set_option maxRecDepth 10000 in
set_option maxHeartbeats 1000000 in
theorem lc_wipe {G : Ctx} {bc bs a L i K : Nat} {sc : Nat → Int32} {Γ : List Sh} {σ : Mem} {X : CS} {o5 o6 : Option Value} (hS : Scr G a L sc) (hi : i + 4 ≤ L) (hL : L ≤ 1000000) (hJ : JS Γ σ K X) (hK : K + 1100 < 1000000000) (hN : ∀ Γ' σ' X' o5' o6', JS Γ' σ' (K + 1100) X' → Wq G M_Law_law (Elw G) bc bs 637 [some (.ref a), some (rf G 0), some (rf G 391), some (rf G 426), some (.int (nI i)), o5', o6'] [] [] Γ' σ') : Wq G M_Law_law (Elw G) (bc + 1) (bs + 6) 165 [some (.ref a), some (rf G 0), some (rf G 391), some (rf G 426), some (.int (nI i)), o5, o6] [] [] Γ σ := by
  refine Wq.bud (bc := bc) (bs := bs) (by omega) (by omega) ?_
  first | refine x_aload_n d_Law_law_165 rfl rfl ?_ | refine x_aloadN_n d_Law_law_165 rfl rfl ?_ | refine x_aloadE_n d_Law_law_165 rfl rfl ?_ | refine x_aloadO_n d_Law_law_165 rfl rfl ?_
  refine x_callV0 d_Law_law_166 k_SD_wipe l_Law_45 v_SD_wipe rfl s_SD_wipe (by first | exact hJ.1.1.1 | exact hJ.2.1.1.1 | exact hM1.1.1 | exact hJ2.2.1.1.1) RoomE.l (Nat.le_of_ble_eq_true rfl) (c_SD_wipe hJ.1 (fun σ1 h1 f1 => ?_))
  have hM1 := hJ.2.1.cls f1
  first | refine x_aload_n d_Law_law_169 rfl rfl ?_ | refine x_aloadN_n d_Law_law_169 rfl rfl ?_ | refine x_aloadE_n d_Law_law_169 rfl rfl ?_ | refine x_aloadO_n d_Law_law_169 rfl rfl ?_
  refine x_callV0 d_Law_law_170 k_Mo_wipe l_Law_48 v_Mo_wipe rfl s_Mo_wipe (by first | exact hJ.1.1.1 | exact hJ.2.1.1.1 | exact hM1.1.1 | exact hJ2.2.1.1.1) RoomE.l (Nat.le_of_ble_eq_true rfl) (c_Mo_wipe hM1.1 hM1.2.1 (fun σ2 m1 u1 t1 f2 => ?_))
  have hJ2 := hJ.step h1 f1 m1 (hM1.2.2.1.tr u1) hM1.2.2.2.nil f2
  refine x_goto (tgt := 637) d_Law_law_173 (by decide) ?_
  exact hN _ _ _ _ _ (hJ2.mK (by omega))
set_option maxRecDepth 10000 in
set_option maxHeartbeats 1000000 in
theorem lc_forget {G : Ctx} {bc bs a L i K : Nat} {sc : Nat → Int32} {Γ : List Sh} {σ : Mem} {X : CS} {o5 o6 : Option Value} (hS : Scr G a L sc) (hi : i + 4 ≤ L) (hL : L ≤ 1000000) (hJ : JS Γ σ K X) (hK : K + 1100 < 1000000000) (hN : ∀ Γ' σ' X' o5' o6', JS Γ' σ' (K + 1100) X' → Wq G M_Law_law (Elw G) bc bs 637 [some (.ref a), some (rf G 0), some (rf G 391), some (rf G 426), some (.int (nI i)), o5', o6'] [] [] Γ' σ') : Wq G M_Law_law (Elw G) (bc + 1) (bs + 6) 176 [some (.ref a), some (rf G 0), some (rf G 391), some (rf G 426), some (.int (nI i)), o5, o6] [] [] Γ σ := by
  refine Wq.bud (bc := bc) (bs := bs) (by omega) (by omega) ?_
  first | refine x_aload_n d_Law_law_176 rfl rfl ?_ | refine x_aloadN_n d_Law_law_176 rfl rfl ?_ | refine x_aloadE_n d_Law_law_176 rfl rfl ?_ | refine x_aloadO_n d_Law_law_176 rfl rfl ?_
  refine x_callV0 d_Law_law_177 k_SD_forget l_Law_49 v_SD_forget rfl s_SD_forget (by first | exact hJ.1.1.1 | exact hJ.2.1.1.1 | exact hM1.1.1 | exact hJ2.2.1.1.1) RoomE.l (Nat.le_of_ble_eq_true rfl) (c_SD_forget hJ.1 (fun σ1 h1 f1 => ?_))
  have hM1 := hJ.2.1.cls f1
  first | refine x_aload_n d_Law_law_180 rfl rfl ?_ | refine x_aloadN_n d_Law_law_180 rfl rfl ?_ | refine x_aloadE_n d_Law_law_180 rfl rfl ?_ | refine x_aloadO_n d_Law_law_180 rfl rfl ?_
  refine x_callV0 d_Law_law_181 k_Mo_forget l_Law_52 v_Mo_forget rfl s_Mo_forget (by first | exact hJ.1.1.1 | exact hJ.2.1.1.1 | exact hM1.1.1 | exact hJ2.2.1.1.1) RoomE.l (Nat.le_of_ble_eq_true rfl) (c_Mo_forget (X := X) hM1.1 (fun σ2 m1 t1 f2 => ?_))
  have hJ2 := hJ.step h1 f1 m1 (isMT.no t1 rfl) (csW.fg hM1.2.2.2.2.1) f2
  refine x_goto (tgt := 637) d_Law_law_184 (by decide) ?_
  exact hN _ _ _ _ _ (hJ2.mK (by omega))
set_option maxRecDepth 10000 in
set_option maxHeartbeats 1000000 in
theorem lc_function {G : Ctx} {bc bs a L i K : Nat} {sc : Nat → Int32} {Γ : List Sh} {σ : Mem} {X : CS} {o5 o6 : Option Value} (hS : Scr G a L sc) (hi : i + 4 ≤ L) (hL : L ≤ 1000000) (hJ : JS Γ σ K X) (hK : K + 1100 < 1000000000) (hN : ∀ Γ' σ' X' o5' o6', JS Γ' σ' (K + 1100) X' → Wq G M_Law_law (Elw G) bc bs 637 [some (.ref a), some (rf G 0), some (rf G 391), some (rf G 426), some (.int (nI i)), o5', o6'] [] [] Γ' σ') : Wq G M_Law_law (Elw G) (bc + 1) (bs + 6) 187 [some (.ref a), some (rf G 0), some (rf G 391), some (rf G 426), some (.int (nI i)), o5, o6] [] [] Γ σ := by
  first | refine x_aload_n d_Law_law_187 rfl rfl ?_ | refine x_aloadN_n d_Law_law_187 rfl rfl ?_ | refine x_aloadE_n d_Law_law_187 rfl rfl ?_ | refine x_aloadO_n d_Law_law_187 rfl rfl ?_
  refine x_aloadE_n d_Law_law_188 rfl rfl ?_
  refine x_iload d_Law_law_189 rfl ?_
  refine x_iconst (v := 1) d_Law_law_191 (by decide) ?_
  refine x_iadd d_Law_law_192 ?_
  refine Wq.top (y := nI (i + 1)) (nI_add i 1) ?_
  refine x_scld d_Law_law_193 hS (show i + 1 < L by omega) (by omega) ?_
  refine x_aloadE_n d_Law_law_194 rfl rfl ?_
  refine x_iload d_Law_law_195 rfl ?_
  refine x_iconst (v := 2) d_Law_law_197 (by decide) ?_
  refine x_iadd d_Law_law_198 ?_
  refine Wq.top (y := nI (i + 2)) (nI_add i 2) ?_
  refine x_scld d_Law_law_199 hS (show i + 2 < L by omega) (by omega) ?_
  refine x_aloadE_n d_Law_law_200 rfl rfl ?_
  refine x_iload d_Law_law_201 rfl ?_
  refine x_iconst (v := 3) d_Law_law_203 (by decide) ?_
  refine x_iadd d_Law_law_204 ?_
  refine Wq.top (y := nI (i + 3)) (nI_add i 3) ?_
  refine x_scld d_Law_law_205 hS (show i + 3 < L by omega) (by omega) ?_
  refine x_if_eq (tgt := 213) d_Law_law_206 (by decide) (fun c206 => ?_) (fun c206 => ?_)
  · refine x_iconst (v := 0) d_Law_law_213 (by decide) ?_
    refine x_callSWg (as := [rf G 0, .int (sc (i + 1)), .int (sc (i + 2)), .int (bI false)]) (bc := bc) (bs := bs) (mc := 1) (ms := 6) d_Law_law_214 kw_Law_function l_Law_53 z_Law_function rfl RoomE.l (Nat.le_of_ble_eq_true rfl) (c_Law_function (b := false) hJ.1 (fun g1 => ?_) (fun g1 g2 => ?_) (fun g1 g2 σ1 h1 f1 => ?_))
    · have hJ := hJ.gr (e := (9, 0))
      refine x_istore d_Law_law_217 rfl ?_
      first | refine x_aload_n d_Law_law_219 rfl rfl ?_ | refine x_aloadN_n d_Law_law_219 rfl rfl ?_ | refine x_aloadE_n d_Law_law_219 rfl rfl ?_ | refine x_aloadO_n d_Law_law_219 rfl rfl ?_
      refine x_aloadE_n d_Law_law_220 rfl rfl ?_
      refine x_iload d_Law_law_221 rfl ?_
      refine x_iconst (v := 1) d_Law_law_223 (by decide) ?_
      refine x_iadd d_Law_law_224 ?_
      refine Wq.top (y := nI (i + 1)) (nI_add i 1) ?_
      refine x_scld d_Law_law_225 hS (show i + 1 < L by omega) (by omega) ?_
      refine x_aloadE_n d_Law_law_226 rfl rfl ?_
      refine x_iload d_Law_law_227 rfl ?_
      refine x_iconst (v := 2) d_Law_law_229 (by decide) ?_
      refine x_iadd d_Law_law_230 ?_
      refine Wq.top (y := nI (i + 2)) (nI_add i 2) ?_
      refine x_scld d_Law_law_231 hS (show i + 2 < L by omega) (by omega) ?_
      refine x_aloadE_n d_Law_law_232 rfl rfl ?_
      refine x_iload d_Law_law_233 rfl ?_
      refine x_iconst (v := 3) d_Law_law_235 (by decide) ?_
      refine x_iadd d_Law_law_236 ?_
      refine Wq.top (y := nI (i + 3)) (nI_add i 3) ?_
      refine x_scld d_Law_law_237 hS (show i + 3 < L by omega) (by omega) ?_
      refine x_if_eq (tgt := 245) d_Law_law_238 (by decide) (fun c238 => ?_) (fun c238 => ?_)
      · refine x_iconst (v := 0) d_Law_law_245 (by decide) ?_
        refine x_callV3 d_Law_law_246 k_Mo_function l_Law_58 v_Mo_function rfl s_Mo_function (by first | exact hJ.1.1.1 | exact hJ.2.1.1.1 | exact hM1.1.1 | exact hJ2.2.1.1.1) RoomE.l (Nat.le_of_ble_eq_true rfl) (c_Mo_function (b := false) hJ.2.1.1 hJ.2.1.2.1 hJ.2.1.2.2.2 (fun z => ?_) (fun z _ => absurd (g1.symm.trans z) (by decide)) (fun z _ => absurd (g1.symm.trans z) (by decide)))
        have hM2 := hJ.2.1.1
        first | refine x_aload_n d_Law_law_249 rfl rfl ?_ | refine x_aloadN_n d_Law_law_249 rfl rfl ?_ | refine x_aloadE_n d_Law_law_249 rfl rfl ?_ | refine x_aloadO_n d_Law_law_249 rfl rfl ?_
        refine x_callV0 d_Law_law_250 k_Mo_thrown l_Law_59 v_Mo_thrown rfl s_Mo_thrown (by first | exact hJ.1.1.1 | exact hJ.2.1.1.1 | exact hM1.1.1 | exact hJ2.2.1.1.1) RoomE.l (Nat.le_of_ble_eq_true rfl) (c_Mo_thrown hM2 ?_)
        rw [wI_s]
        refine x_iload d_Law_law_253 rfl ?_
        refine x_icmp_eq (tgt := 260) d_Law_law_255 (by decide) (fun c255 => ?_) (fun c255 => ?_)
        · refine x_goto (tgt := 637) d_Law_law_260 (by decide) ?_
          exact hN _ _ _ _ _ (hJ.thr.mK (by omega))
        · exact absurd rfl c255
      · exact absurd c206 c238
    · have hJ := hJ.gr (e := (9, 0))
      refine x_istore d_Law_law_217 rfl ?_
      first | refine x_aload_n d_Law_law_219 rfl rfl ?_ | refine x_aloadN_n d_Law_law_219 rfl rfl ?_ | refine x_aloadE_n d_Law_law_219 rfl rfl ?_ | refine x_aloadO_n d_Law_law_219 rfl rfl ?_
      refine x_aloadE_n d_Law_law_220 rfl rfl ?_
      refine x_iload d_Law_law_221 rfl ?_
      refine x_iconst (v := 1) d_Law_law_223 (by decide) ?_
      refine x_iadd d_Law_law_224 ?_
      refine Wq.top (y := nI (i + 1)) (nI_add i 1) ?_
      refine x_scld d_Law_law_225 hS (show i + 1 < L by omega) (by omega) ?_
      refine x_aloadE_n d_Law_law_226 rfl rfl ?_
      refine x_iload d_Law_law_227 rfl ?_
      refine x_iconst (v := 2) d_Law_law_229 (by decide) ?_
      refine x_iadd d_Law_law_230 ?_
      refine Wq.top (y := nI (i + 2)) (nI_add i 2) ?_
      refine x_scld d_Law_law_231 hS (show i + 2 < L by omega) (by omega) ?_
      refine x_aloadE_n d_Law_law_232 rfl rfl ?_
      refine x_iload d_Law_law_233 rfl ?_
      refine x_iconst (v := 3) d_Law_law_235 (by decide) ?_
      refine x_iadd d_Law_law_236 ?_
      refine Wq.top (y := nI (i + 3)) (nI_add i 3) ?_
      refine x_scld d_Law_law_237 hS (show i + 3 < L by omega) (by omega) ?_
      refine x_if_eq (tgt := 245) d_Law_law_238 (by decide) (fun c238 => ?_) (fun c238 => ?_)
      · refine x_iconst (v := 0) d_Law_law_245 (by decide) ?_
        refine x_callV3 d_Law_law_246 k_Mo_function l_Law_58 v_Mo_function rfl s_Mo_function (by first | exact hJ.1.1.1 | exact hJ.2.1.1.1 | exact hM1.1.1 | exact hJ2.2.1.1.1) RoomE.l (Nat.le_of_ble_eq_true rfl) (c_Mo_function (b := false) hJ.2.1.1 hJ.2.1.2.1 hJ.2.1.2.2.2 (fun z => absurd (z.symm.trans g1) (by decide)) (fun z z2 => ?_) (fun z z2 => absurd (g2.symm.trans z2) (by decide)))
        have hM2 := hJ.2.1.1
        first | refine x_aload_n d_Law_law_249 rfl rfl ?_ | refine x_aloadN_n d_Law_law_249 rfl rfl ?_ | refine x_aloadE_n d_Law_law_249 rfl rfl ?_ | refine x_aloadO_n d_Law_law_249 rfl rfl ?_
        refine x_callV0 d_Law_law_250 k_Mo_thrown l_Law_59 v_Mo_thrown rfl s_Mo_thrown (by first | exact hJ.1.1.1 | exact hJ.2.1.1.1 | exact hM1.1.1 | exact hJ2.2.1.1.1) RoomE.l (Nat.le_of_ble_eq_true rfl) (c_Mo_thrown hM2 ?_)
        rw [wI_s]
        refine x_iload d_Law_law_253 rfl ?_
        refine x_icmp_eq (tgt := 260) d_Law_law_255 (by decide) (fun c255 => ?_) (fun c255 => ?_)
        · refine x_goto (tgt := 637) d_Law_law_260 (by decide) ?_
          exact hN _ _ _ _ _ (hJ.thr.mK (by omega))
        · exact absurd rfl c255
      · exact absurd c206 c238
    · have hM1 := hJ.2.1.cls f1
      refine x_istore d_Law_law_217 rfl ?_
      first | refine x_aload_n d_Law_law_219 rfl rfl ?_ | refine x_aloadN_n d_Law_law_219 rfl rfl ?_ | refine x_aloadE_n d_Law_law_219 rfl rfl ?_ | refine x_aloadO_n d_Law_law_219 rfl rfl ?_
      refine x_aloadE_n d_Law_law_220 rfl rfl ?_
      refine x_iload d_Law_law_221 rfl ?_
      refine x_iconst (v := 1) d_Law_law_223 (by decide) ?_
      refine x_iadd d_Law_law_224 ?_
      refine Wq.top (y := nI (i + 1)) (nI_add i 1) ?_
      refine x_scld d_Law_law_225 hS (show i + 1 < L by omega) (by omega) ?_
      refine x_aloadE_n d_Law_law_226 rfl rfl ?_
      refine x_iload d_Law_law_227 rfl ?_
      refine x_iconst (v := 2) d_Law_law_229 (by decide) ?_
      refine x_iadd d_Law_law_230 ?_
      refine Wq.top (y := nI (i + 2)) (nI_add i 2) ?_
      refine x_scld d_Law_law_231 hS (show i + 2 < L by omega) (by omega) ?_
      refine x_aloadE_n d_Law_law_232 rfl rfl ?_
      refine x_iload d_Law_law_233 rfl ?_
      refine x_iconst (v := 3) d_Law_law_235 (by decide) ?_
      refine x_iadd d_Law_law_236 ?_
      refine Wq.top (y := nI (i + 3)) (nI_add i 3) ?_
      refine x_scld d_Law_law_237 hS (show i + 3 < L by omega) (by omega) ?_
      refine x_if_eq (tgt := 245) d_Law_law_238 (by decide) (fun c238 => ?_) (fun c238 => ?_)
      · refine x_iconst (v := 0) d_Law_law_245 (by decide) ?_
        refine x_callV3 d_Law_law_246 k_Mo_function l_Law_58 v_Mo_function rfl s_Mo_function (by first | exact hJ.1.1.1 | exact hJ.2.1.1.1 | exact hM1.1.1 | exact hJ2.2.1.1.1) RoomE.l (Nat.le_of_ble_eq_true rfl) (c_Mo_function (b := false) hM1.1 hM1.2.1 hM1.2.2.2 (fun z => absurd (z.symm.trans g1) (by decide)) (fun z z2 => absurd (z2.symm.trans g2) (by decide)) (fun z z2 σ2 m1 t11 t0 f2 => ?_))
        have hJ2 := hJ.step h1 f1 m1 (isMT.no t11 rfl) (hM1.2.2.2.fn g1 g2) f2
        have hM2 := hJ2.2.1.1
        first | refine x_aload_n d_Law_law_249 rfl rfl ?_ | refine x_aloadN_n d_Law_law_249 rfl rfl ?_ | refine x_aloadE_n d_Law_law_249 rfl rfl ?_ | refine x_aloadO_n d_Law_law_249 rfl rfl ?_
        refine x_callV0 d_Law_law_250 k_Mo_thrown l_Law_59 v_Mo_thrown rfl s_Mo_thrown (by first | exact hJ.1.1.1 | exact hJ.2.1.1.1 | exact hM1.1.1 | exact hJ2.2.1.1.1) RoomE.l (Nat.le_of_ble_eq_true rfl) (c_Mo_thrown hM2 ?_)
        rw [t0]
        refine x_iload d_Law_law_253 rfl ?_
        refine x_icmp_eq (tgt := 260) d_Law_law_255 (by decide) (fun c255 => ?_) (fun c255 => ?_)
        · refine x_goto (tgt := 637) d_Law_law_260 (by decide) ?_
          exact hN _ _ _ _ _ (hJ2.mK (by omega))
        · exact absurd rfl c255
      · exact absurd c206 c238
  · refine x_iconst (v := 1) d_Law_law_209 (by decide) ?_
    refine x_goto (tgt := 214) d_Law_law_210 (by decide) ?_
    refine x_callSWg (as := [rf G 0, .int (sc (i + 1)), .int (sc (i + 2)), .int (bI true)]) (bc := bc) (bs := bs) (mc := 1) (ms := 6) d_Law_law_214 kw_Law_function l_Law_53 z_Law_function rfl RoomE.l (Nat.le_of_ble_eq_true rfl) (c_Law_function (b := true) hJ.1 (fun g1 => ?_) (fun g1 g2 => ?_) (fun g1 g2 σ1 h1 f1 => ?_))
    · have hJ := hJ.gr (e := (9, 0))
      refine x_istore d_Law_law_217 rfl ?_
      first | refine x_aload_n d_Law_law_219 rfl rfl ?_ | refine x_aloadN_n d_Law_law_219 rfl rfl ?_ | refine x_aloadE_n d_Law_law_219 rfl rfl ?_ | refine x_aloadO_n d_Law_law_219 rfl rfl ?_
      refine x_aloadE_n d_Law_law_220 rfl rfl ?_
      refine x_iload d_Law_law_221 rfl ?_
      refine x_iconst (v := 1) d_Law_law_223 (by decide) ?_
      refine x_iadd d_Law_law_224 ?_
      refine Wq.top (y := nI (i + 1)) (nI_add i 1) ?_
      refine x_scld d_Law_law_225 hS (show i + 1 < L by omega) (by omega) ?_
      refine x_aloadE_n d_Law_law_226 rfl rfl ?_
      refine x_iload d_Law_law_227 rfl ?_
      refine x_iconst (v := 2) d_Law_law_229 (by decide) ?_
      refine x_iadd d_Law_law_230 ?_
      refine Wq.top (y := nI (i + 2)) (nI_add i 2) ?_
      refine x_scld d_Law_law_231 hS (show i + 2 < L by omega) (by omega) ?_
      refine x_aloadE_n d_Law_law_232 rfl rfl ?_
      refine x_iload d_Law_law_233 rfl ?_
      refine x_iconst (v := 3) d_Law_law_235 (by decide) ?_
      refine x_iadd d_Law_law_236 ?_
      refine Wq.top (y := nI (i + 3)) (nI_add i 3) ?_
      refine x_scld d_Law_law_237 hS (show i + 3 < L by omega) (by omega) ?_
      refine x_if_eq (tgt := 245) d_Law_law_238 (by decide) (fun c238 => ?_) (fun c238 => ?_)
      · exact absurd c238 c206
      · refine x_iconst (v := 1) d_Law_law_241 (by decide) ?_
        refine x_goto (tgt := 246) d_Law_law_242 (by decide) ?_
        refine x_callV3 d_Law_law_246 k_Mo_function l_Law_58 v_Mo_function rfl s_Mo_function (by first | exact hJ.1.1.1 | exact hJ.2.1.1.1 | exact hM1.1.1 | exact hJ2.2.1.1.1) RoomE.l (Nat.le_of_ble_eq_true rfl) (c_Mo_function (b := true) hJ.2.1.1 hJ.2.1.2.1 hJ.2.1.2.2.2 (fun z => ?_) (fun z _ => absurd (g1.symm.trans z) (by decide)) (fun z _ => absurd (g1.symm.trans z) (by decide)))
        have hM2 := hJ.2.1.1
        first | refine x_aload_n d_Law_law_249 rfl rfl ?_ | refine x_aloadN_n d_Law_law_249 rfl rfl ?_ | refine x_aloadE_n d_Law_law_249 rfl rfl ?_ | refine x_aloadO_n d_Law_law_249 rfl rfl ?_
        refine x_callV0 d_Law_law_250 k_Mo_thrown l_Law_59 v_Mo_thrown rfl s_Mo_thrown (by first | exact hJ.1.1.1 | exact hJ.2.1.1.1 | exact hM1.1.1 | exact hJ2.2.1.1.1) RoomE.l (Nat.le_of_ble_eq_true rfl) (c_Mo_thrown hM2 ?_)
        rw [wI_s]
        refine x_iload d_Law_law_253 rfl ?_
        refine x_icmp_eq (tgt := 260) d_Law_law_255 (by decide) (fun c255 => ?_) (fun c255 => ?_)
        · refine x_goto (tgt := 637) d_Law_law_260 (by decide) ?_
          exact hN _ _ _ _ _ (hJ.thr.mK (by omega))
        · exact absurd rfl c255
    · have hJ := hJ.gr (e := (9, 0))
      refine x_istore d_Law_law_217 rfl ?_
      first | refine x_aload_n d_Law_law_219 rfl rfl ?_ | refine x_aloadN_n d_Law_law_219 rfl rfl ?_ | refine x_aloadE_n d_Law_law_219 rfl rfl ?_ | refine x_aloadO_n d_Law_law_219 rfl rfl ?_
      refine x_aloadE_n d_Law_law_220 rfl rfl ?_
      refine x_iload d_Law_law_221 rfl ?_
      refine x_iconst (v := 1) d_Law_law_223 (by decide) ?_
      refine x_iadd d_Law_law_224 ?_
      refine Wq.top (y := nI (i + 1)) (nI_add i 1) ?_
      refine x_scld d_Law_law_225 hS (show i + 1 < L by omega) (by omega) ?_
      refine x_aloadE_n d_Law_law_226 rfl rfl ?_
      refine x_iload d_Law_law_227 rfl ?_
      refine x_iconst (v := 2) d_Law_law_229 (by decide) ?_
      refine x_iadd d_Law_law_230 ?_
      refine Wq.top (y := nI (i + 2)) (nI_add i 2) ?_
      refine x_scld d_Law_law_231 hS (show i + 2 < L by omega) (by omega) ?_
      refine x_aloadE_n d_Law_law_232 rfl rfl ?_
      refine x_iload d_Law_law_233 rfl ?_
      refine x_iconst (v := 3) d_Law_law_235 (by decide) ?_
      refine x_iadd d_Law_law_236 ?_
      refine Wq.top (y := nI (i + 3)) (nI_add i 3) ?_
      refine x_scld d_Law_law_237 hS (show i + 3 < L by omega) (by omega) ?_
      refine x_if_eq (tgt := 245) d_Law_law_238 (by decide) (fun c238 => ?_) (fun c238 => ?_)
      · exact absurd c238 c206
      · refine x_iconst (v := 1) d_Law_law_241 (by decide) ?_
        refine x_goto (tgt := 246) d_Law_law_242 (by decide) ?_
        refine x_callV3 d_Law_law_246 k_Mo_function l_Law_58 v_Mo_function rfl s_Mo_function (by first | exact hJ.1.1.1 | exact hJ.2.1.1.1 | exact hM1.1.1 | exact hJ2.2.1.1.1) RoomE.l (Nat.le_of_ble_eq_true rfl) (c_Mo_function (b := true) hJ.2.1.1 hJ.2.1.2.1 hJ.2.1.2.2.2 (fun z => absurd (z.symm.trans g1) (by decide)) (fun z z2 => ?_) (fun z z2 => absurd (g2.symm.trans z2) (by decide)))
        have hM2 := hJ.2.1.1
        first | refine x_aload_n d_Law_law_249 rfl rfl ?_ | refine x_aloadN_n d_Law_law_249 rfl rfl ?_ | refine x_aloadE_n d_Law_law_249 rfl rfl ?_ | refine x_aloadO_n d_Law_law_249 rfl rfl ?_
        refine x_callV0 d_Law_law_250 k_Mo_thrown l_Law_59 v_Mo_thrown rfl s_Mo_thrown (by first | exact hJ.1.1.1 | exact hJ.2.1.1.1 | exact hM1.1.1 | exact hJ2.2.1.1.1) RoomE.l (Nat.le_of_ble_eq_true rfl) (c_Mo_thrown hM2 ?_)
        rw [wI_s]
        refine x_iload d_Law_law_253 rfl ?_
        refine x_icmp_eq (tgt := 260) d_Law_law_255 (by decide) (fun c255 => ?_) (fun c255 => ?_)
        · refine x_goto (tgt := 637) d_Law_law_260 (by decide) ?_
          exact hN _ _ _ _ _ (hJ.thr.mK (by omega))
        · exact absurd rfl c255
    · have hM1 := hJ.2.1.cls f1
      refine x_istore d_Law_law_217 rfl ?_
      first | refine x_aload_n d_Law_law_219 rfl rfl ?_ | refine x_aloadN_n d_Law_law_219 rfl rfl ?_ | refine x_aloadE_n d_Law_law_219 rfl rfl ?_ | refine x_aloadO_n d_Law_law_219 rfl rfl ?_
      refine x_aloadE_n d_Law_law_220 rfl rfl ?_
      refine x_iload d_Law_law_221 rfl ?_
      refine x_iconst (v := 1) d_Law_law_223 (by decide) ?_
      refine x_iadd d_Law_law_224 ?_
      refine Wq.top (y := nI (i + 1)) (nI_add i 1) ?_
      refine x_scld d_Law_law_225 hS (show i + 1 < L by omega) (by omega) ?_
      refine x_aloadE_n d_Law_law_226 rfl rfl ?_
      refine x_iload d_Law_law_227 rfl ?_
      refine x_iconst (v := 2) d_Law_law_229 (by decide) ?_
      refine x_iadd d_Law_law_230 ?_
      refine Wq.top (y := nI (i + 2)) (nI_add i 2) ?_
      refine x_scld d_Law_law_231 hS (show i + 2 < L by omega) (by omega) ?_
      refine x_aloadE_n d_Law_law_232 rfl rfl ?_
      refine x_iload d_Law_law_233 rfl ?_
      refine x_iconst (v := 3) d_Law_law_235 (by decide) ?_
      refine x_iadd d_Law_law_236 ?_
      refine Wq.top (y := nI (i + 3)) (nI_add i 3) ?_
      refine x_scld d_Law_law_237 hS (show i + 3 < L by omega) (by omega) ?_
      refine x_if_eq (tgt := 245) d_Law_law_238 (by decide) (fun c238 => ?_) (fun c238 => ?_)
      · exact absurd c238 c206
      · refine x_iconst (v := 1) d_Law_law_241 (by decide) ?_
        refine x_goto (tgt := 246) d_Law_law_242 (by decide) ?_
        refine x_callV3 d_Law_law_246 k_Mo_function l_Law_58 v_Mo_function rfl s_Mo_function (by first | exact hJ.1.1.1 | exact hJ.2.1.1.1 | exact hM1.1.1 | exact hJ2.2.1.1.1) RoomE.l (Nat.le_of_ble_eq_true rfl) (c_Mo_function (b := true) hM1.1 hM1.2.1 hM1.2.2.2 (fun z => absurd (z.symm.trans g1) (by decide)) (fun z z2 => absurd (z2.symm.trans g2) (by decide)) (fun z z2 σ2 m1 t11 t0 f2 => ?_))
        have hJ2 := hJ.step h1 f1 m1 (isMT.no t11 rfl) (hM1.2.2.2.fn g1 g2) f2
        have hM2 := hJ2.2.1.1
        first | refine x_aload_n d_Law_law_249 rfl rfl ?_ | refine x_aloadN_n d_Law_law_249 rfl rfl ?_ | refine x_aloadE_n d_Law_law_249 rfl rfl ?_ | refine x_aloadO_n d_Law_law_249 rfl rfl ?_
        refine x_callV0 d_Law_law_250 k_Mo_thrown l_Law_59 v_Mo_thrown rfl s_Mo_thrown (by first | exact hJ.1.1.1 | exact hJ.2.1.1.1 | exact hM1.1.1 | exact hJ2.2.1.1.1) RoomE.l (Nat.le_of_ble_eq_true rfl) (c_Mo_thrown hM2 ?_)
        rw [t0]
        refine x_iload d_Law_law_253 rfl ?_
        refine x_icmp_eq (tgt := 260) d_Law_law_255 (by decide) (fun c255 => ?_) (fun c255 => ?_)
        · refine x_goto (tgt := 637) d_Law_law_260 (by decide) ?_
          exact hN _ _ _ _ _ (hJ2.mK (by omega))
        · exact absurd rfl c255
set_option maxRecDepth 10000 in
set_option maxHeartbeats 1000000 in
theorem lc_body {G : Ctx} {bc bs a L i K : Nat} {sc : Nat → Int32} {Γ : List Sh} {σ : Mem} {X : CS} {o5 o6 : Option Value} (hS : Scr G a L sc) (hi : i + 4 ≤ L) (hL : L ≤ 1000000) (hJ : JS Γ σ K X) (hK : K + 1100 < 1000000000) (hN : ∀ Γ' σ' X' o5' o6', JS Γ' σ' (K + 1100) X' → Wq G M_Law_law (Elw G) bc bs 637 [some (.ref a), some (rf G 0), some (rf G 391), some (rf G 426), some (.int (nI i)), o5', o6'] [] [] Γ' σ') : Wq G M_Law_law (Elw G) (bc + 1) (bs + 6) 263 [some (.ref a), some (rf G 0), some (rf G 391), some (rf G 426), some (.int (nI i)), o5, o6] [] [] Γ σ := by
  first | refine x_aload_n d_Law_law_263 rfl rfl ?_ | refine x_aloadN_n d_Law_law_263 rfl rfl ?_ | refine x_aloadE_n d_Law_law_263 rfl rfl ?_ | refine x_aloadO_n d_Law_law_263 rfl rfl ?_
  refine x_aloadE_n d_Law_law_264 rfl rfl ?_
  refine x_iload d_Law_law_265 rfl ?_
  refine x_iconst (v := 1) d_Law_law_267 (by decide) ?_
  refine x_iadd d_Law_law_268 ?_
  refine Wq.top (y := nI (i + 1)) (nI_add i 1) ?_
  refine x_scld d_Law_law_269 hS (show i + 1 < L by omega) (by omega) ?_
  refine x_aloadE_n d_Law_law_270 rfl rfl ?_
  refine x_iload d_Law_law_271 rfl ?_
  refine x_iconst (v := 2) d_Law_law_273 (by decide) ?_
  refine x_iadd d_Law_law_274 ?_
  refine Wq.top (y := nI (i + 2)) (nI_add i 2) ?_
  refine x_scld d_Law_law_275 hS (show i + 2 < L by omega) (by omega) ?_
  refine x_callSWg (as := [rf G 0, .int (sc (i + 1)), .int (sc (i + 2))]) (bc := bc) (bs := bs) (mc := 1) (ms := 6) d_Law_law_276 kw_Law_body l_Law_62 z_Law_body rfl RoomE.l (Nat.le_of_ble_eq_true rfl) (c_Law_body hJ.1 (fun g1 => ?_) (fun g1 g2 => ?_) (fun g1 g2 σ1 h1 f1 => ?_))
  · have hJ := hJ.gr (e := (9, 0))
    refine x_istore d_Law_law_279 rfl ?_
    first | refine x_aload_n d_Law_law_281 rfl rfl ?_ | refine x_aloadN_n d_Law_law_281 rfl rfl ?_ | refine x_aloadE_n d_Law_law_281 rfl rfl ?_ | refine x_aloadO_n d_Law_law_281 rfl rfl ?_
    refine x_aloadE_n d_Law_law_282 rfl rfl ?_
    refine x_iload d_Law_law_283 rfl ?_
    refine x_iconst (v := 1) d_Law_law_285 (by decide) ?_
    refine x_iadd d_Law_law_286 ?_
    refine Wq.top (y := nI (i + 1)) (nI_add i 1) ?_
    refine x_scld d_Law_law_287 hS (show i + 1 < L by omega) (by omega) ?_
    refine x_aloadE_n d_Law_law_288 rfl rfl ?_
    refine x_iload d_Law_law_289 rfl ?_
    refine x_iconst (v := 2) d_Law_law_291 (by decide) ?_
    refine x_iadd d_Law_law_292 ?_
    refine Wq.top (y := nI (i + 2)) (nI_add i 2) ?_
    refine x_scld d_Law_law_293 hS (show i + 2 < L by omega) (by omega) ?_
    refine x_callV2 d_Law_law_294 k_Mo_body l_Law_65 v_Mo_body rfl s_Mo_body (by first | exact hJ.1.1.1 | exact hJ.2.1.1.1 | exact hM1.1.1 | exact hJ2.2.1.1.1) RoomE.l (Nat.le_of_ble_eq_true rfl) (c_Mo_body hJ.2.1.1 hJ.2.1.2.1 hJ.2.1.2.2.2 (fun z => ?_) (fun z _ => absurd (g1.symm.trans z) (by decide)) (fun z _ => absurd (g1.symm.trans z) (by decide)))
    have hM2 := hJ.2.1.1
    first | refine x_aload_n d_Law_law_297 rfl rfl ?_ | refine x_aloadN_n d_Law_law_297 rfl rfl ?_ | refine x_aloadE_n d_Law_law_297 rfl rfl ?_ | refine x_aloadO_n d_Law_law_297 rfl rfl ?_
    refine x_callV0 d_Law_law_298 k_Mo_thrown l_Law_59 v_Mo_thrown rfl s_Mo_thrown (by first | exact hJ.1.1.1 | exact hJ.2.1.1.1 | exact hM1.1.1 | exact hJ2.2.1.1.1) RoomE.l (Nat.le_of_ble_eq_true rfl) (c_Mo_thrown hM2 ?_)
    rw [wI_s]
    refine x_iload d_Law_law_301 rfl ?_
    refine x_icmp_eq (tgt := 308) d_Law_law_303 (by decide) (fun c303 => ?_) (fun c303 => ?_)
    · refine x_goto (tgt := 637) d_Law_law_308 (by decide) ?_
      exact hN _ _ _ _ _ (hJ.thr.mK (by omega))
    · exact absurd rfl c303
  · have hJ := hJ.gr (e := (9, 0))
    refine x_istore d_Law_law_279 rfl ?_
    first | refine x_aload_n d_Law_law_281 rfl rfl ?_ | refine x_aloadN_n d_Law_law_281 rfl rfl ?_ | refine x_aloadE_n d_Law_law_281 rfl rfl ?_ | refine x_aloadO_n d_Law_law_281 rfl rfl ?_
    refine x_aloadE_n d_Law_law_282 rfl rfl ?_
    refine x_iload d_Law_law_283 rfl ?_
    refine x_iconst (v := 1) d_Law_law_285 (by decide) ?_
    refine x_iadd d_Law_law_286 ?_
    refine Wq.top (y := nI (i + 1)) (nI_add i 1) ?_
    refine x_scld d_Law_law_287 hS (show i + 1 < L by omega) (by omega) ?_
    refine x_aloadE_n d_Law_law_288 rfl rfl ?_
    refine x_iload d_Law_law_289 rfl ?_
    refine x_iconst (v := 2) d_Law_law_291 (by decide) ?_
    refine x_iadd d_Law_law_292 ?_
    refine Wq.top (y := nI (i + 2)) (nI_add i 2) ?_
    refine x_scld d_Law_law_293 hS (show i + 2 < L by omega) (by omega) ?_
    refine x_callV2 d_Law_law_294 k_Mo_body l_Law_65 v_Mo_body rfl s_Mo_body (by first | exact hJ.1.1.1 | exact hJ.2.1.1.1 | exact hM1.1.1 | exact hJ2.2.1.1.1) RoomE.l (Nat.le_of_ble_eq_true rfl) (c_Mo_body hJ.2.1.1 hJ.2.1.2.1 hJ.2.1.2.2.2 (fun z => absurd (z.symm.trans g1) (by decide)) (fun z z2 => ?_) (fun z z2 => absurd (g2.symm.trans z2) (by decide)))
    have hM2 := hJ.2.1.1
    first | refine x_aload_n d_Law_law_297 rfl rfl ?_ | refine x_aloadN_n d_Law_law_297 rfl rfl ?_ | refine x_aloadE_n d_Law_law_297 rfl rfl ?_ | refine x_aloadO_n d_Law_law_297 rfl rfl ?_
    refine x_callV0 d_Law_law_298 k_Mo_thrown l_Law_59 v_Mo_thrown rfl s_Mo_thrown (by first | exact hJ.1.1.1 | exact hJ.2.1.1.1 | exact hM1.1.1 | exact hJ2.2.1.1.1) RoomE.l (Nat.le_of_ble_eq_true rfl) (c_Mo_thrown hM2 ?_)
    rw [wI_s]
    refine x_iload d_Law_law_301 rfl ?_
    refine x_icmp_eq (tgt := 308) d_Law_law_303 (by decide) (fun c303 => ?_) (fun c303 => ?_)
    · refine x_goto (tgt := 637) d_Law_law_308 (by decide) ?_
      exact hN _ _ _ _ _ (hJ.thr.mK (by omega))
    · exact absurd rfl c303
  · have hM1 := hJ.2.1.cls f1
    refine x_istore d_Law_law_279 rfl ?_
    first | refine x_aload_n d_Law_law_281 rfl rfl ?_ | refine x_aloadN_n d_Law_law_281 rfl rfl ?_ | refine x_aloadE_n d_Law_law_281 rfl rfl ?_ | refine x_aloadO_n d_Law_law_281 rfl rfl ?_
    refine x_aloadE_n d_Law_law_282 rfl rfl ?_
    refine x_iload d_Law_law_283 rfl ?_
    refine x_iconst (v := 1) d_Law_law_285 (by decide) ?_
    refine x_iadd d_Law_law_286 ?_
    refine Wq.top (y := nI (i + 1)) (nI_add i 1) ?_
    refine x_scld d_Law_law_287 hS (show i + 1 < L by omega) (by omega) ?_
    refine x_aloadE_n d_Law_law_288 rfl rfl ?_
    refine x_iload d_Law_law_289 rfl ?_
    refine x_iconst (v := 2) d_Law_law_291 (by decide) ?_
    refine x_iadd d_Law_law_292 ?_
    refine Wq.top (y := nI (i + 2)) (nI_add i 2) ?_
    refine x_scld d_Law_law_293 hS (show i + 2 < L by omega) (by omega) ?_
    refine x_callV2 d_Law_law_294 k_Mo_body l_Law_65 v_Mo_body rfl s_Mo_body (by first | exact hJ.1.1.1 | exact hJ.2.1.1.1 | exact hM1.1.1 | exact hJ2.2.1.1.1) RoomE.l (Nat.le_of_ble_eq_true rfl) (c_Mo_body hM1.1 hM1.2.1 hM1.2.2.2 (fun z => absurd (z.symm.trans g1) (by decide)) (fun z z2 => absurd (z2.symm.trans g2) (by decide)) (fun z z2 σ2 m1 t11 t0 f2 => ?_))
    have hJ2 := hJ.step h1 f1 m1 (isMT.no t11 rfl) (hM1.2.2.2.bd g1 g2) f2
    have hM2 := hJ2.2.1.1
    first | refine x_aload_n d_Law_law_297 rfl rfl ?_ | refine x_aloadN_n d_Law_law_297 rfl rfl ?_ | refine x_aloadE_n d_Law_law_297 rfl rfl ?_ | refine x_aloadO_n d_Law_law_297 rfl rfl ?_
    refine x_callV0 d_Law_law_298 k_Mo_thrown l_Law_59 v_Mo_thrown rfl s_Mo_thrown (by first | exact hJ.1.1.1 | exact hJ.2.1.1.1 | exact hM1.1.1 | exact hJ2.2.1.1.1) RoomE.l (Nat.le_of_ble_eq_true rfl) (c_Mo_thrown hM2 ?_)
    rw [t0]
    refine x_iload d_Law_law_301 rfl ?_
    refine x_icmp_eq (tgt := 308) d_Law_law_303 (by decide) (fun c303 => ?_) (fun c303 => ?_)
    · refine x_goto (tgt := 637) d_Law_law_308 (by decide) ?_
      exact hN _ _ _ _ _ (hJ2.mK (by omega))
    · exact absurd rfl c303
set_option maxRecDepth 10000 in
set_option maxHeartbeats 1000000 in
theorem lc_goal {G : Ctx} {bc bs a L i K : Nat} {sc : Nat → Int32} {Γ : List Sh} {σ : Mem} {X : CS} {o5 o6 : Option Value} (hS : Scr G a L sc) (hi : i + 4 ≤ L) (hL : L ≤ 1000000) (hJ : JS Γ σ K X) (hK : K + 1100 < 1000000000) (hN : ∀ Γ' σ' X' o5' o6', JS Γ' σ' (K + 1100) X' → Wq G M_Law_law (Elw G) bc bs 637 [some (.ref a), some (rf G 0), some (rf G 391), some (rf G 426), some (.int (nI i)), o5', o6'] [] [] Γ' σ') : Wq G M_Law_law (Elw G) (bc + 1) (bs + 6) 311 [some (.ref a), some (rf G 0), some (rf G 391), some (rf G 426), some (.int (nI i)), o5, o6] [] [] Γ σ := by
  first | refine x_aload_n d_Law_law_311 rfl rfl ?_ | refine x_aloadN_n d_Law_law_311 rfl rfl ?_ | refine x_aloadE_n d_Law_law_311 rfl rfl ?_ | refine x_aloadO_n d_Law_law_311 rfl rfl ?_
  refine x_callSWg (as := [rf G 0]) (bc := bc) (bs := bs) (mc := 1) (ms := 6) d_Law_law_312 kw_Law_goal l_Law_66 z_Law_goal rfl RoomE.l (Nat.le_of_ble_eq_true rfl) (c_Law_goal hJ.1 (fun g1 => ?_) (fun g1 σ1 h1 f1 => ?_))
  · have hJ := hJ.gr (e := (9, 0))
    refine x_istore d_Law_law_315 rfl ?_
    first | refine x_aload_n d_Law_law_317 rfl rfl ?_ | refine x_aloadN_n d_Law_law_317 rfl rfl ?_ | refine x_aloadE_n d_Law_law_317 rfl rfl ?_ | refine x_aloadO_n d_Law_law_317 rfl rfl ?_
    refine x_callV0 d_Law_law_318 k_Mo_goal l_Law_69 v_Mo_goal rfl s_Mo_goal (by first | exact hJ.1.1.1 | exact hJ.2.1.1.1 | exact hM1.1.1 | exact hJ2.2.1.1.1) RoomE.l (Nat.le_of_ble_eq_true rfl) (c_Mo_goal hJ.2.1.1 hJ.2.1.2.1 hJ.2.1.2.2.2 (fun z => ?_) (fun z => absurd (g1.symm.trans z) (by decide)))
    have hM2 := hJ.2.1.1
    first | refine x_aload_n d_Law_law_321 rfl rfl ?_ | refine x_aloadN_n d_Law_law_321 rfl rfl ?_ | refine x_aloadE_n d_Law_law_321 rfl rfl ?_ | refine x_aloadO_n d_Law_law_321 rfl rfl ?_
    refine x_callV0 d_Law_law_322 k_Mo_thrown l_Law_59 v_Mo_thrown rfl s_Mo_thrown (by first | exact hJ.1.1.1 | exact hJ.2.1.1.1 | exact hM1.1.1 | exact hJ2.2.1.1.1) RoomE.l (Nat.le_of_ble_eq_true rfl) (c_Mo_thrown hM2 ?_)
    rw [wI_s]
    refine x_iload d_Law_law_325 rfl ?_
    refine x_icmp_eq (tgt := 332) d_Law_law_327 (by decide) (fun c327 => ?_) (fun c327 => ?_)
    · refine x_goto (tgt := 637) d_Law_law_332 (by decide) ?_
      exact hN _ _ _ _ _ (hJ.thr.mK (by omega))
    · exact absurd rfl c327
  · have hM1 := hJ.2.1.cls f1
    refine x_istore d_Law_law_315 rfl ?_
    first | refine x_aload_n d_Law_law_317 rfl rfl ?_ | refine x_aloadN_n d_Law_law_317 rfl rfl ?_ | refine x_aloadE_n d_Law_law_317 rfl rfl ?_ | refine x_aloadO_n d_Law_law_317 rfl rfl ?_
    refine x_callV0 d_Law_law_318 k_Mo_goal l_Law_69 v_Mo_goal rfl s_Mo_goal (by first | exact hJ.1.1.1 | exact hJ.2.1.1.1 | exact hM1.1.1 | exact hJ2.2.1.1.1) RoomE.l (Nat.le_of_ble_eq_true rfl) (c_Mo_goal hM1.1 hM1.2.1 hM1.2.2.2 (fun z => absurd (z.symm.trans g1) (by decide)) (fun z σ2 m1 t11 t0 f2 => ?_))
    have hJ2 := hJ.step h1 f1 m1 (isMT.no t11 rfl) (hM1.2.2.2.gl' g1) f2
    have hM2 := hJ2.2.1.1
    first | refine x_aload_n d_Law_law_321 rfl rfl ?_ | refine x_aloadN_n d_Law_law_321 rfl rfl ?_ | refine x_aloadE_n d_Law_law_321 rfl rfl ?_ | refine x_aloadO_n d_Law_law_321 rfl rfl ?_
    refine x_callV0 d_Law_law_322 k_Mo_thrown l_Law_59 v_Mo_thrown rfl s_Mo_thrown (by first | exact hJ.1.1.1 | exact hJ.2.1.1.1 | exact hM1.1.1 | exact hJ2.2.1.1.1) RoomE.l (Nat.le_of_ble_eq_true rfl) (c_Mo_thrown hM2 ?_)
    rw [t0]
    refine x_iload d_Law_law_325 rfl ?_
    refine x_icmp_eq (tgt := 332) d_Law_law_327 (by decide) (fun c327 => ?_) (fun c327 => ?_)
    · refine x_goto (tgt := 637) d_Law_law_332 (by decide) ?_
      exact hN _ _ _ _ _ (hJ2.mK (by omega))
    · exact absurd rfl c327
set_option maxRecDepth 10000 in
set_option maxHeartbeats 1000000 in
theorem lc_input {G : Ctx} {bc bs a L i K : Nat} {sc : Nat → Int32} {Γ : List Sh} {σ : Mem} {X : CS} {o5 o6 : Option Value} (hS : Scr G a L sc) (hi : i + 4 ≤ L) (hL : L ≤ 1000000) (hJ : JS Γ σ K X) (hK : K + 1100 < 1000000000) (hN : ∀ Γ' σ' X' o5' o6', JS Γ' σ' (K + 1100) X' → Wq G M_Law_law (Elw G) bc bs 637 [some (.ref a), some (rf G 0), some (rf G 391), some (rf G 426), some (.int (nI i)), o5', o6'] [] [] Γ' σ') : Wq G M_Law_law (Elw G) (bc + 1) (bs + 6) 335 [some (.ref a), some (rf G 0), some (rf G 391), some (rf G 426), some (.int (nI i)), o5, o6] [] [] Γ σ := by
  refine Wq.bud (bc := bc) (bs := bs) (by omega) (by omega) ?_
  first | refine x_aload_n d_Law_law_335 rfl rfl ?_ | refine x_aloadN_n d_Law_law_335 rfl rfl ?_ | refine x_aloadE_n d_Law_law_335 rfl rfl ?_ | refine x_aloadO_n d_Law_law_335 rfl rfl ?_
  refine x_aloadE_n d_Law_law_336 rfl rfl ?_
  refine x_iload d_Law_law_337 rfl ?_
  refine x_iconst (v := 1) d_Law_law_339 (by decide) ?_
  refine x_iadd d_Law_law_340 ?_
  refine Wq.top (y := nI (i + 1)) (nI_add i 1) ?_
  refine x_scld d_Law_law_341 hS (show i + 1 < L by omega) (by omega) ?_
  refine x_callV1 d_Law_law_342 k_SD_input l_Law_70 v_SD_input rfl s_SD_input (by first | exact hJ.1.1.1 | exact hJ.2.1.1.1 | exact hM1.1.1 | exact hJ2.2.1.1.1) RoomE.l (Nat.le_of_ble_eq_true rfl) (c_SD_input hJ.1 (fun σ1 h1 f1 => ?_))
  have hM1 := hJ.2.1.cls f1
  first | refine x_aload_n d_Law_law_345 rfl rfl ?_ | refine x_aloadN_n d_Law_law_345 rfl rfl ?_ | refine x_aloadE_n d_Law_law_345 rfl rfl ?_ | refine x_aloadO_n d_Law_law_345 rfl rfl ?_
  refine x_aloadE_n d_Law_law_346 rfl rfl ?_
  refine x_iload d_Law_law_347 rfl ?_
  refine x_iconst (v := 1) d_Law_law_349 (by decide) ?_
  refine x_iadd d_Law_law_350 ?_
  refine Wq.top (y := nI (i + 1)) (nI_add i 1) ?_
  refine x_scld d_Law_law_351 hS (show i + 1 < L by omega) (by omega) ?_
  refine x_callV1 d_Law_law_352 k_Mo_input l_Law_74 v_Mo_input rfl s_Mo_input (by first | exact hJ.1.1.1 | exact hJ.2.1.1.1 | exact hM1.1.1 | exact hJ2.2.1.1.1) RoomE.l (Nat.le_of_ble_eq_true rfl) (c_Mo_input hM1.1 hM1.2.1 hM1.2.2.2 (fun σ2 m1 u1 f2 => ?_))
  have hJ2 := hJ.step h1 f1 m1 (hM1.2.2.1.tr u1).inp hM1.2.2.2.inp f2
  refine x_icmp_eq (tgt := 637) d_Law_law_355 (by decide) (fun c355 => ?_) (fun c355 => ?_)
  · exact hN _ _ _ _ _ (hJ2.mK (by omega))
  · exact absurd rfl c355
set_option maxRecDepth 10000 in
set_option maxHeartbeats 1000000 in
theorem lc_drive {G : Ctx} {bc bs a L i K : Nat} {sc : Nat → Int32} {Γ : List Sh} {σ : Mem} {X : CS} {o5 o6 : Option Value} (hS : Scr G a L sc) (hi : i + 4 ≤ L) (hL : L ≤ 1000000) (hJ : JS Γ σ K X) (hK : K + 1100 < 1000000000) (hN : ∀ Γ' σ' X' o5' o6', JS Γ' σ' (K + 1100) X' → Wq G M_Law_law (Elw G) bc bs 637 [some (.ref a), some (rf G 0), some (rf G 391), some (rf G 426), some (.int (nI i)), o5', o6'] [] [] Γ' σ') : Wq G M_Law_law (Elw G) (bc + 1) (bs + 6) 360 [some (.ref a), some (rf G 0), some (rf G 391), some (rf G 426), some (.int (nI i)), o5, o6] [] [] Γ σ := by
  first | refine x_aload_n d_Law_law_360 rfl rfl ?_ | refine x_aloadN_n d_Law_law_360 rfl rfl ?_ | refine x_aloadE_n d_Law_law_360 rfl rfl ?_ | refine x_aloadO_n d_Law_law_360 rfl rfl ?_
  first | refine x_aload_n d_Law_law_361 rfl rfl ?_ | refine x_aloadN_n d_Law_law_361 rfl rfl ?_ | refine x_aloadE_n d_Law_law_361 rfl rfl ?_ | refine x_aloadO_n d_Law_law_361 rfl rfl ?_
  refine x_callSWg (as := [rf G 0, rf G 426]) (bc := bc) (bs := bs) (mc := 1) (ms := 6) d_Law_law_362 kw_Law_drive l_Law_75 z_Law_drive rfl RoomE.l (Nat.le_of_ble_eq_true rfl) (c_Law_drive hJ.1 hJ.2.2 hJ.2.1.2.2.2 (by omega) (fun g1 => ?_) (fun g0 S σ1 g1 h1 f1 => ?_) (fun g0 S σ1 g1 g2 h1 f1 => ?_) (fun g0 S σ1 g1 g2 h1 f1 => ?_))
  · have hJ := hJ.gr (e := (9, 0))
    refine x_istore d_Law_law_365 rfl ?_
    first | refine x_aload_n d_Law_law_367 rfl rfl ?_ | refine x_aloadN_n d_Law_law_367 rfl rfl ?_ | refine x_aloadE_n d_Law_law_367 rfl rfl ?_ | refine x_aloadO_n d_Law_law_367 rfl rfl ?_
    refine x_callV0 d_Law_law_368 k_Mo_drive l_Law_78 v_Mo_drive rfl s_Mo_drive (by first | exact hJ.1.1.1 | exact hJ.2.1.1.1 | exact hM1.1.1 | exact hJ2.2.1.1.1) RoomE.l (Nat.le_of_ble_eq_true rfl) (c_Mo_drive (S := ([], 0, 0, fun _ => 0, fun _ => 0)) hJ.2.1.1 hJ.2.1.2.1 hJ.2.1.2.2.2 (fun z => ?_) (fun z => absurd g1 z) (fun z => absurd g1 z))
    have hM2 := hJ.2.1.1
    refine x_istore d_Law_law_371 rfl ?_
    first | refine x_aload_n d_Law_law_373 rfl rfl ?_ | refine x_aloadN_n d_Law_law_373 rfl rfl ?_ | refine x_aloadE_n d_Law_law_373 rfl rfl ?_ | refine x_aloadO_n d_Law_law_373 rfl rfl ?_
    refine x_callV0 d_Law_law_374 k_Mo_thrown l_Law_59 v_Mo_thrown rfl s_Mo_thrown (by first | exact hJ.1.1.1 | exact hJ.2.1.1.1 | exact hM1.1.1 | exact hJ2.2.1.1.1) RoomE.l (Nat.le_of_ble_eq_true rfl) (c_Mo_thrown hM2 ?_)
    rw [wI_s]
    refine x_iload d_Law_law_377 rfl ?_
    refine x_icmp_eq (tgt := 384) d_Law_law_379 (by decide) (fun c379 => ?_) (fun c379 => ?_)
    · refine x_iload d_Law_law_384 rfl ?_
      refine x_if_ne (tgt := 401) d_Law_law_386 (by decide) (fun c386 => ?_) (fun c386 => ?_)
      · refine x_goto (tgt := 637) d_Law_law_401 (by decide) ?_
        exact hN _ _ _ _ _ (hJ.thr.mK (by omega))
      · exact absurd c386 (by decide)
    · exact absurd rfl c379
  · have hC := h1.gr (e := (9, 0)) hJ.len
    have hM1 := (hJ.2.1.cls f1).gr (e := (9, 0)) hJ.len
    have ho := Gle.app (l := [(9, 0)]) _ _ hJ.2.2
    refine x_istore d_Law_law_365 rfl ?_
    first | refine x_aload_n d_Law_law_367 rfl rfl ?_ | refine x_aloadN_n d_Law_law_367 rfl rfl ?_ | refine x_aloadE_n d_Law_law_367 rfl rfl ?_ | refine x_aloadO_n d_Law_law_367 rfl rfl ?_
    refine x_callV0 d_Law_law_368 k_Mo_drive l_Law_78 v_Mo_drive rfl s_Mo_drive (by first | exact hJ.1.1.1 | exact hJ.2.1.1.1 | exact hM1.1.1 | exact hJ2.2.1.1.1) RoomE.l (Nat.le_of_ble_eq_true rfl) (c_Mo_drive (S := S) hM1.1 hM1.2.1 hM1.2.2.2 (fun z => absurd z g0) (fun _ _ τ q1 q2 q3 => ?_) (fun _ z => absurd (g1.symm.trans z) (by decide)))
    have hJ2 : JS _ τ (K + 700) (kTr X (tClr (dT X S))) := JS.mk (X := X) hC q1.M hM1.1 (hM1.2.1.dF q1) (isMT.no q3 rfl) hM1.2.2.2.tr ho
    have hM2 := hJ2.2.1.1
    refine x_istore d_Law_law_371 rfl ?_
    first | refine x_aload_n d_Law_law_373 rfl rfl ?_ | refine x_aloadN_n d_Law_law_373 rfl rfl ?_ | refine x_aloadE_n d_Law_law_373 rfl rfl ?_ | refine x_aloadO_n d_Law_law_373 rfl rfl ?_
    refine x_callV0 d_Law_law_374 k_Mo_thrown l_Law_59 v_Mo_thrown rfl s_Mo_thrown (by first | exact hJ.1.1.1 | exact hJ.2.1.1.1 | exact hM1.1.1 | exact hJ2.2.1.1.1) RoomE.l (Nat.le_of_ble_eq_true rfl) (c_Mo_thrown hM2 ?_)
    rw [q2]
    refine x_iload d_Law_law_377 rfl ?_
    refine x_icmp_eq (tgt := 384) d_Law_law_379 (by decide) (fun c379 => ?_) (fun c379 => ?_)
    · refine x_iload d_Law_law_384 rfl ?_
      refine x_if_ne (tgt := 401) d_Law_law_386 (by decide) (fun c386 => ?_) (fun c386 => ?_)
      · refine x_goto (tgt := 637) d_Law_law_401 (by decide) ?_
        exact hN _ _ _ _ _ (hJ2.mK (by omega))
      · exact absurd c386 (by decide)
    · exact absurd rfl c379
  · have hC := h1.gr (e := (9, 0)) hJ.len
    have hM1 := (hJ.2.1.cls f1).gr (e := (9, 0)) hJ.len
    have ho := Gle.app (l := [(9, 0)]) _ _ hJ.2.2
    have hWF := ((dT_ok (S := S) hJ.2.1.2.2.2 g0).2.2 g1).1
    refine x_istore d_Law_law_365 rfl ?_
    first | refine x_aload_n d_Law_law_367 rfl rfl ?_ | refine x_aloadN_n d_Law_law_367 rfl rfl ?_ | refine x_aloadE_n d_Law_law_367 rfl rfl ?_ | refine x_aloadO_n d_Law_law_367 rfl rfl ?_
    refine x_callV0 d_Law_law_368 k_Mo_drive l_Law_78 v_Mo_drive rfl s_Mo_drive (by first | exact hJ.1.1.1 | exact hJ.2.1.1.1 | exact hM1.1.1 | exact hJ2.2.1.1.1) RoomE.l (Nat.le_of_ble_eq_true rfl) (c_Mo_drive (S := S) hM1.1 hM1.2.1 hM1.2.2.2 (fun z => absurd z g0) (fun _ _ τ q1 q2 q3 => ?_) (fun _ _ z => absurd (g2.symm.trans z) (by decide)))
    have hJ2 : JS _ τ (K + 700) (kSg X (dW X S).2.1 (dW X S).2.2 (tClr (dW X S).1.1)) := JS.mk (X := X) hC q1.M hM1.1 ((hM1.2.1.dF q1).sg (dW_sg hWF)) (isMT.no q3 rfl) (hM1.2.2.2.sg hWF) ho
    have hM2 := hJ2.2.1.1
    refine x_istore d_Law_law_371 rfl ?_
    first | refine x_aload_n d_Law_law_373 rfl rfl ?_ | refine x_aloadN_n d_Law_law_373 rfl rfl ?_ | refine x_aloadE_n d_Law_law_373 rfl rfl ?_ | refine x_aloadO_n d_Law_law_373 rfl rfl ?_
    refine x_callV0 d_Law_law_374 k_Mo_thrown l_Law_59 v_Mo_thrown rfl s_Mo_thrown (by first | exact hJ.1.1.1 | exact hJ.2.1.1.1 | exact hM1.1.1 | exact hJ2.2.1.1.1) RoomE.l (Nat.le_of_ble_eq_true rfl) (c_Mo_thrown hM2 ?_)
    rw [q2]
    refine x_iload d_Law_law_377 rfl ?_
    refine x_icmp_eq (tgt := 384) d_Law_law_379 (by decide) (fun c379 => ?_) (fun c379 => ?_)
    · refine x_iload d_Law_law_384 rfl ?_
      refine x_if_ne (tgt := 401) d_Law_law_386 (by decide) (fun c386 => ?_) (fun c386 => ?_)
      · refine x_goto (tgt := 637) d_Law_law_401 (by decide) ?_
        exact hN _ _ _ _ _ (hJ2.mK (by omega))
      · exact absurd c386 (by decide)
    · exact absurd rfl c379
  · have hJw : isCS Γ (wL σ1 426 0 (nI (tN (dW X S).1.1)).toInt64) (K + 700) (kSg X (dW X S).2.1 (dW X S).2.2 (dW X S).1.1) := h1.P (FrP.wL (k := 426)) (fun a h z => by omega)
    have hM1 := (hJ.2.1.cls f1).P (FrP.wL (k := 426) (j := 0) (v := (nI (tN (dW X S).1.1)).toInt64)) (fun a h1 h2 z => by omega)
    have hWF := ((dT_ok (S := S) hJ.2.1.2.2.2 g0).2.2 g1).1
    refine x_istore d_Law_law_365 rfl ?_
    first | refine x_aload_n d_Law_law_367 rfl rfl ?_ | refine x_aloadN_n d_Law_law_367 rfl rfl ?_ | refine x_aloadE_n d_Law_law_367 rfl rfl ?_ | refine x_aloadO_n d_Law_law_367 rfl rfl ?_
    refine x_callV0 d_Law_law_368 k_Mo_drive l_Law_78 v_Mo_drive rfl s_Mo_drive (by first | exact hJ.1.1.1 | exact hJ.2.1.1.1 | exact hM1.1.1 | exact hJ2.2.1.1.1) RoomE.l (Nat.le_of_ble_eq_true rfl) (c_Mo_drive (S := S) hM1.1 hM1.2.1 hM1.2.2.2 (fun z => absurd z g0) (fun _ z => absurd z (fun y => y.elim (fun y => absurd (g1.symm.trans y) (by decide)) (fun y => absurd (g2.symm.trans y.2) (by decide)))) (fun _ _ _ τ q1 q2 q3 q4 q5 q6 q7 => ?_))
    have hJ2 : JS _ τ (K + 700) (kSg X (dW X S).2.1 (dW X S).2.2 (dW X S).1.1) := JS.mk (X := X) hJw q1.M hM1.1 ((hM1.2.1.dF q1).sg (dW_sg hWF)) (isMT.dr hM1.2.2.2 g0 g1 q3 q4 q5 q6 q7) (hM1.2.2.2.sg hWF) hJ.2.2
    have hM2 := hJ2.2.1.1
    refine x_istore d_Law_law_371 rfl ?_
    first | refine x_aload_n d_Law_law_373 rfl rfl ?_ | refine x_aloadN_n d_Law_law_373 rfl rfl ?_ | refine x_aloadE_n d_Law_law_373 rfl rfl ?_ | refine x_aloadO_n d_Law_law_373 rfl rfl ?_
    refine x_callV0 d_Law_law_374 k_Mo_thrown l_Law_59 v_Mo_thrown rfl s_Mo_thrown (by first | exact hJ.1.1.1 | exact hJ.2.1.1.1 | exact hM1.1.1 | exact hJ2.2.1.1.1) RoomE.l (Nat.le_of_ble_eq_true rfl) (c_Mo_thrown hM2 ?_)
    rw [q2]
    refine x_iload d_Law_law_377 rfl ?_
    refine x_icmp_eq (tgt := 384) d_Law_law_379 (by decide) (fun c379 => ?_) (fun c379 => ?_)
    · refine x_iload d_Law_law_384 rfl ?_
      refine x_if_ne (tgt := 401) d_Law_law_386 (by decide) (fun c386 => ?_) (fun c386 => ?_)
      · exact absurd rfl c386
      · first | refine x_aload_n d_Law_law_389 rfl rfl ?_ | refine x_aloadN_n d_Law_law_389 rfl rfl ?_ | refine x_aloadE_n d_Law_law_389 rfl rfl ?_ | refine x_aloadO_n d_Law_law_389 rfl rfl ?_
        refine x_iconst (v := 0) d_Law_law_390 (by decide) ?_
        refine x_lald d_Law_law_391 (by exact hJ2.2.2) (show vp_in (nI 0) 1 from vp_in_nI (by decide) (by decide)) ?_
        rw [show τ.2.2 426 (0 : Int32).toNatClampNeg = (nI (tN (dW X S).1.1)).toInt64 by rw [q1.M.1]; exact wL_v, q7.1.1]
        refine x_iload d_Law_law_392 rfl ?_
        refine x_i2l d_Law_law_394 ?_
        refine x_lcmp d_Law_law_395 ?_
        skip
        refine x_if_eq (tgt := 401) d_Law_law_396 (by decide) (fun c396 => ?_) (fun c396 => ?_)
        · refine x_goto (tgt := 637) d_Law_law_401 (by decide) ?_
          exact hN _ _ _ _ _ (hJ2.mK (by omega))
        · exact absurd lg_cmp_rf c396
    · exact absurd rfl c379
set_option maxRecDepth 10000 in
set_option maxHeartbeats 1000000 in
theorem lc_node {G : Ctx} {bc bs a L i K : Nat} {sc : Nat → Int32} {Γ : List Sh} {σ : Mem} {X : CS} {o5 o6 : Option Value} (hS : Scr G a L sc) (hi : i + 4 ≤ L) (hL : L ≤ 1000000) (hJ : JS Γ σ K X) (hK : K + 1100 < 1000000000) (hN : ∀ Γ' σ' X' o5' o6', JS Γ' σ' (K + 1100) X' → Wq G M_Law_law (Elw G) bc bs 637 [some (.ref a), some (rf G 0), some (rf G 391), some (rf G 426), some (.int (nI i)), o5', o6'] [] [] Γ' σ') : Wq G M_Law_law (Elw G) (bc + 1) (bs + 6) 404 [some (.ref a), some (rf G 0), some (rf G 391), some (rf G 426), some (.int (nI i)), o5, o6] [] [] Γ σ := by
  refine Wq.bud (bc := bc) (bs := bs) (by omega) (by omega) ?_
  first | refine x_aload_n d_Law_law_404 rfl rfl ?_ | refine x_aloadN_n d_Law_law_404 rfl rfl ?_ | refine x_aloadE_n d_Law_law_404 rfl rfl ?_ | refine x_aloadO_n d_Law_law_404 rfl rfl ?_
  refine x_aloadE_n d_Law_law_405 rfl rfl ?_
  refine x_iload d_Law_law_406 rfl ?_
  refine x_iconst (v := 1) d_Law_law_408 (by decide) ?_
  refine x_iadd d_Law_law_409 ?_
  refine Wq.top (y := nI (i + 1)) (nI_add i 1) ?_
  refine x_scld d_Law_law_410 hS (show i + 1 < L by omega) (by omega) ?_
  refine x_aloadE_n d_Law_law_411 rfl rfl ?_
  refine x_iload d_Law_law_412 rfl ?_
  refine x_iconst (v := 2) d_Law_law_414 (by decide) ?_
  refine x_iadd d_Law_law_415 ?_
  refine Wq.top (y := nI (i + 2)) (nI_add i 2) ?_
  refine x_scld d_Law_law_416 hS (show i + 2 < L by omega) (by omega) ?_
  refine x_callV2 d_Law_law_417 k_SD_node l_Law_79 v_SD_node rfl s_SD_node (by first | exact hJ.1.1.1 | exact hJ.2.1.1.1 | exact hM1.1.1 | exact hJ2.2.1.1.1) RoomE.l (Nat.le_of_ble_eq_true rfl) (c_SD_node hJ.1 ?_)
  first | refine x_aload_n d_Law_law_420 rfl rfl ?_ | refine x_aloadN_n d_Law_law_420 rfl rfl ?_ | refine x_aloadE_n d_Law_law_420 rfl rfl ?_ | refine x_aloadO_n d_Law_law_420 rfl rfl ?_
  refine x_aloadE_n d_Law_law_421 rfl rfl ?_
  refine x_iload d_Law_law_422 rfl ?_
  refine x_iconst (v := 1) d_Law_law_424 (by decide) ?_
  refine x_iadd d_Law_law_425 ?_
  refine Wq.top (y := nI (i + 1)) (nI_add i 1) ?_
  refine x_scld d_Law_law_426 hS (show i + 1 < L by omega) (by omega) ?_
  refine x_aloadE_n d_Law_law_427 rfl rfl ?_
  refine x_iload d_Law_law_428 rfl ?_
  refine x_iconst (v := 2) d_Law_law_430 (by decide) ?_
  refine x_iadd d_Law_law_431 ?_
  refine Wq.top (y := nI (i + 2)) (nI_add i 2) ?_
  refine x_scld d_Law_law_432 hS (show i + 2 < L by omega) (by omega) ?_
  refine x_callV2 d_Law_law_433 k_Mo_node l_Law_83 v_Mo_node rfl s_Mo_node (by first | exact hJ.1.1.1 | exact hJ.2.1.1.1 | exact hM1.1.1 | exact hJ2.2.1.1.1) RoomE.l (Nat.le_of_ble_eq_true rfl) (c_Mo_node hJ.2.1.1 hJ.2.1.2.2.1 ?_)
  refine x_icmp_eq (tgt := 637) d_Law_law_436 (by decide) (fun c436 => ?_) (fun c436 => ?_)
  · exact hN _ _ _ _ _ (hJ.thr.mK (by omega))
  · exact absurd rfl c436
set_option maxRecDepth 10000 in
set_option maxHeartbeats 1000000 in
theorem lc_term {G : Ctx} {bc bs a L i K : Nat} {sc : Nat → Int32} {Γ : List Sh} {σ : Mem} {X : CS} {o5 o6 : Option Value} (hS : Scr G a L sc) (hi : i + 4 ≤ L) (hL : L ≤ 1000000) (hJ : JS Γ σ K X) (hK : K + 1100 < 1000000000) (hN : ∀ Γ' σ' X' o5' o6', JS Γ' σ' (K + 1100) X' → Wq G M_Law_law (Elw G) bc bs 637 [some (.ref a), some (rf G 0), some (rf G 391), some (rf G 426), some (.int (nI i)), o5', o6'] [] [] Γ' σ') : Wq G M_Law_law (Elw G) (bc + 1) (bs + 6) 441 [some (.ref a), some (rf G 0), some (rf G 391), some (rf G 426), some (.int (nI i)), o5, o6] [] [] Γ σ := by
  refine Wq.bud (bc := bc) (bs := bs) (by omega) (by omega) ?_
  first | refine x_aload_n d_Law_law_441 rfl rfl ?_ | refine x_aloadN_n d_Law_law_441 rfl rfl ?_ | refine x_aloadE_n d_Law_law_441 rfl rfl ?_ | refine x_aloadO_n d_Law_law_441 rfl rfl ?_
  refine x_aloadE_n d_Law_law_442 rfl rfl ?_
  refine x_iload d_Law_law_443 rfl ?_
  refine x_iconst (v := 1) d_Law_law_445 (by decide) ?_
  refine x_iadd d_Law_law_446 ?_
  refine Wq.top (y := nI (i + 1)) (nI_add i 1) ?_
  refine x_scld d_Law_law_447 hS (show i + 1 < L by omega) (by omega) ?_
  refine x_aloadE_n d_Law_law_448 rfl rfl ?_
  refine x_iload d_Law_law_449 rfl ?_
  refine x_iconst (v := 2) d_Law_law_451 (by decide) ?_
  refine x_iadd d_Law_law_452 ?_
  refine Wq.top (y := nI (i + 2)) (nI_add i 2) ?_
  refine x_scld d_Law_law_453 hS (show i + 2 < L by omega) (by omega) ?_
  refine x_callV2 d_Law_law_454 k_SD_term l_Law_84 v_SD_term rfl s_SD_term (by first | exact hJ.1.1.1 | exact hJ.2.1.1.1 | exact hM1.1.1 | exact hJ2.2.1.1.1) RoomE.l (Nat.le_of_ble_eq_true rfl) (c_SD_term hJ.1 ?_)
  first | refine x_aload_n d_Law_law_457 rfl rfl ?_ | refine x_aloadN_n d_Law_law_457 rfl rfl ?_ | refine x_aloadE_n d_Law_law_457 rfl rfl ?_ | refine x_aloadO_n d_Law_law_457 rfl rfl ?_
  refine x_aloadE_n d_Law_law_458 rfl rfl ?_
  refine x_iload d_Law_law_459 rfl ?_
  refine x_iconst (v := 1) d_Law_law_461 (by decide) ?_
  refine x_iadd d_Law_law_462 ?_
  refine Wq.top (y := nI (i + 1)) (nI_add i 1) ?_
  refine x_scld d_Law_law_463 hS (show i + 1 < L by omega) (by omega) ?_
  refine x_aloadE_n d_Law_law_464 rfl rfl ?_
  refine x_iload d_Law_law_465 rfl ?_
  refine x_iconst (v := 2) d_Law_law_467 (by decide) ?_
  refine x_iadd d_Law_law_468 ?_
  refine Wq.top (y := nI (i + 2)) (nI_add i 2) ?_
  refine x_scld d_Law_law_469 hS (show i + 2 < L by omega) (by omega) ?_
  refine x_callV2 d_Law_law_470 k_Mo_term l_Law_87 v_Mo_term rfl s_Mo_term (by first | exact hJ.1.1.1 | exact hJ.2.1.1.1 | exact hM1.1.1 | exact hJ2.2.1.1.1) RoomE.l (Nat.le_of_ble_eq_true rfl) (c_Mo_term hJ.2.1.1 hJ.2.1.2.2.1 ?_)
  refine x_icmp_eq (tgt := 637) d_Law_law_473 (by decide) (fun c473 => ?_) (fun c473 => ?_)
  · exact hN _ _ _ _ _ (hJ.thr.mK (by omega))
  · exact absurd rfl c473
set_option maxRecDepth 10000 in
set_option maxHeartbeats 1000000 in
theorem lc_residual {G : Ctx} {bc bs a L i K : Nat} {sc : Nat → Int32} {Γ : List Sh} {σ : Mem} {X : CS} {o5 o6 : Option Value} (hS : Scr G a L sc) (hi : i + 4 ≤ L) (hL : L ≤ 1000000) (hJ : JS Γ σ K X) (hK : K + 1100 < 1000000000) (hN : ∀ Γ' σ' X' o5' o6', JS Γ' σ' (K + 1100) X' → Wq G M_Law_law (Elw G) bc bs 637 [some (.ref a), some (rf G 0), some (rf G 391), some (rf G 426), some (.int (nI i)), o5', o6'] [] [] Γ' σ') : Wq G M_Law_law (Elw G) (bc + 1) (bs + 6) 478 [some (.ref a), some (rf G 0), some (rf G 391), some (rf G 426), some (.int (nI i)), o5, o6] [] [] Γ σ := by
  refine Wq.bud (bc := bc) (bs := bs) (by omega) (by omega) ?_
  first | refine x_aload_n d_Law_law_478 rfl rfl ?_ | refine x_aloadN_n d_Law_law_478 rfl rfl ?_ | refine x_aloadE_n d_Law_law_478 rfl rfl ?_ | refine x_aloadO_n d_Law_law_478 rfl rfl ?_
  refine x_aloadE_n d_Law_law_479 rfl rfl ?_
  refine x_iload d_Law_law_480 rfl ?_
  refine x_iconst (v := 1) d_Law_law_482 (by decide) ?_
  refine x_iadd d_Law_law_483 ?_
  refine Wq.top (y := nI (i + 1)) (nI_add i 1) ?_
  refine x_scld d_Law_law_484 hS (show i + 1 < L by omega) (by omega) ?_
  refine x_aloadE_n d_Law_law_485 rfl rfl ?_
  refine x_iload d_Law_law_486 rfl ?_
  refine x_iconst (v := 2) d_Law_law_488 (by decide) ?_
  refine x_iadd d_Law_law_489 ?_
  refine Wq.top (y := nI (i + 2)) (nI_add i 2) ?_
  refine x_scld d_Law_law_490 hS (show i + 2 < L by omega) (by omega) ?_
  refine x_callV2 d_Law_law_491 k_SD_residual l_Law_88 v_SD_residual rfl s_SD_residual (by first | exact hJ.1.1.1 | exact hJ.2.1.1.1 | exact hM1.1.1 | exact hJ2.2.1.1.1) RoomE.l (Nat.le_of_ble_eq_true rfl) (c_SD_residual hJ.1 ?_)
  first | refine x_aload_n d_Law_law_494 rfl rfl ?_ | refine x_aloadN_n d_Law_law_494 rfl rfl ?_ | refine x_aloadE_n d_Law_law_494 rfl rfl ?_ | refine x_aloadO_n d_Law_law_494 rfl rfl ?_
  refine x_aloadE_n d_Law_law_495 rfl rfl ?_
  refine x_iload d_Law_law_496 rfl ?_
  refine x_iconst (v := 1) d_Law_law_498 (by decide) ?_
  refine x_iadd d_Law_law_499 ?_
  refine Wq.top (y := nI (i + 1)) (nI_add i 1) ?_
  refine x_scld d_Law_law_500 hS (show i + 1 < L by omega) (by omega) ?_
  refine x_aloadE_n d_Law_law_501 rfl rfl ?_
  refine x_iload d_Law_law_502 rfl ?_
  refine x_iconst (v := 2) d_Law_law_504 (by decide) ?_
  refine x_iadd d_Law_law_505 ?_
  refine Wq.top (y := nI (i + 2)) (nI_add i 2) ?_
  refine x_scld d_Law_law_506 hS (show i + 2 < L by omega) (by omega) ?_
  refine x_callV2 d_Law_law_507 k_Mo_residual l_Law_91 v_Mo_residual rfl s_Mo_residual (by first | exact hJ.1.1.1 | exact hJ.2.1.1.1 | exact hM1.1.1 | exact hJ2.2.1.1.1) RoomE.l (Nat.le_of_ble_eq_true rfl) (c_Mo_residual hJ.2.1.1 hJ.2.1.2.2.1 ?_)
  refine x_icmp_eq (tgt := 637) d_Law_law_510 (by decide) (fun c510 => ?_) (fun c510 => ?_)
  · exact hN _ _ _ _ _ (hJ.thr.mK (by omega))
  · exact absurd rfl c510
set_option maxRecDepth 10000 in
set_option maxHeartbeats 1000000 in
theorem lc_result {G : Ctx} {bc bs a L i K : Nat} {sc : Nat → Int32} {Γ : List Sh} {σ : Mem} {X : CS} {o5 o6 : Option Value} (hS : Scr G a L sc) (hi : i + 4 ≤ L) (hL : L ≤ 1000000) (hJ : JS Γ σ K X) (hK : K + 1100 < 1000000000) (hN : ∀ Γ' σ' X' o5' o6', JS Γ' σ' (K + 1100) X' → Wq G M_Law_law (Elw G) bc bs 637 [some (.ref a), some (rf G 0), some (rf G 391), some (rf G 426), some (.int (nI i)), o5', o6'] [] [] Γ' σ') : Wq G M_Law_law (Elw G) (bc + 1) (bs + 6) 599 [some (.ref a), some (rf G 0), some (rf G 391), some (rf G 426), some (.int (nI i)), o5, o6] [] [] Γ σ := by
  refine Wq.bud (bc := bc) (bs := bs) (by omega) (by omega) ?_
  first | refine x_aload_n d_Law_law_599 rfl rfl ?_ | refine x_aloadN_n d_Law_law_599 rfl rfl ?_ | refine x_aloadE_n d_Law_law_599 rfl rfl ?_ | refine x_aloadO_n d_Law_law_599 rfl rfl ?_
  refine x_aloadE_n d_Law_law_600 rfl rfl ?_
  refine x_iload d_Law_law_601 rfl ?_
  refine x_iconst (v := 1) d_Law_law_603 (by decide) ?_
  refine x_iadd d_Law_law_604 ?_
  refine Wq.top (y := nI (i + 1)) (nI_add i 1) ?_
  refine x_scld d_Law_law_605 hS (show i + 1 < L by omega) (by omega) ?_
  refine x_callV1 d_Law_law_606 k_SD_result l_Law_96 v_SD_result rfl s_SD_result (by first | exact hJ.1.1.1 | exact hJ.2.1.1.1 | exact hM1.1.1 | exact hJ2.2.1.1.1) RoomE.l (Nat.le_of_ble_eq_true rfl) (c_SD_result hJ.1 ?_)
  first | refine x_aload_n d_Law_law_609 rfl rfl ?_ | refine x_aloadN_n d_Law_law_609 rfl rfl ?_ | refine x_aloadE_n d_Law_law_609 rfl rfl ?_ | refine x_aloadO_n d_Law_law_609 rfl rfl ?_
  refine x_aloadE_n d_Law_law_610 rfl rfl ?_
  refine x_iload d_Law_law_611 rfl ?_
  refine x_iconst (v := 1) d_Law_law_613 (by decide) ?_
  refine x_iadd d_Law_law_614 ?_
  refine Wq.top (y := nI (i + 1)) (nI_add i 1) ?_
  refine x_scld d_Law_law_615 hS (show i + 1 < L by omega) (by omega) ?_
  refine x_callV1 d_Law_law_616 k_Mo_result l_Law_100 v_Mo_result rfl s_Mo_result (by first | exact hJ.1.1.1 | exact hJ.2.1.1.1 | exact hM1.1.1 | exact hJ2.2.1.1.1) RoomE.l (Nat.le_of_ble_eq_true rfl) (c_Mo_result hJ.2.1.1 hJ.2.1.2.1 hJ.2.1.2.2.2.2.2.2.2.2 (fun σ2 m1 u1 f2 => ?_))
  refine x_icmp_eq (tgt := 637) d_Law_law_619 (by decide) (fun c619 => ?_) (fun c619 => ?_)
  · exact hN _ _ _ _ _ ((hJ.ref m1 u1 f2).mK (by omega))
  · exact absurd rfl c619
set_option maxRecDepth 10000 in
set_option maxHeartbeats 1000000 in
theorem lc_steps {G : Ctx} {bc bs a L i K : Nat} {sc : Nat → Int32} {Γ : List Sh} {σ : Mem} {X : CS} {o5 o6 : Option Value} (hS : Scr G a L sc) (hi : i + 4 ≤ L) (hL : L ≤ 1000000) (hJ : JS Γ σ K X) (hK : K + 1100 < 1000000000) (hN : ∀ Γ' σ' X' o5' o6', JS Γ' σ' (K + 1100) X' → Wq G M_Law_law (Elw G) bc bs 637 [some (.ref a), some (rf G 0), some (rf G 391), some (rf G 426), some (.int (nI i)), o5', o6'] [] [] Γ' σ') : Wq G M_Law_law (Elw G) (bc + 1) (bs + 6) 624 [some (.ref a), some (rf G 0), some (rf G 391), some (rf G 426), some (.int (nI i)), o5, o6] [] [] Γ σ := by
  refine Wq.bud (bc := bc) (bs := bs) (by omega) (by omega) ?_
  first | refine x_aload_n d_Law_law_624 rfl rfl ?_ | refine x_aloadN_n d_Law_law_624 rfl rfl ?_ | refine x_aloadE_n d_Law_law_624 rfl rfl ?_ | refine x_aloadO_n d_Law_law_624 rfl rfl ?_
  refine x_callV0 d_Law_law_625 k_SD_steps l_Law_101 v_SD_steps rfl s_SD_steps (by first | exact hJ.1.1.1 | exact hJ.2.1.1.1 | exact hM1.1.1 | exact hJ2.2.1.1.1) RoomE.l (Nat.le_of_ble_eq_true rfl) (c_SD_steps hJ.1 ?_)
  first | refine x_aload_n d_Law_law_628 rfl rfl ?_ | refine x_aloadN_n d_Law_law_628 rfl rfl ?_ | refine x_aloadE_n d_Law_law_628 rfl rfl ?_ | refine x_aloadO_n d_Law_law_628 rfl rfl ?_
  refine x_callV0 d_Law_law_629 k_Mo_steps l_Law_104 v_Mo_steps rfl s_Mo_steps (by first | exact hJ.1.1.1 | exact hJ.2.1.1.1 | exact hM1.1.1 | exact hJ2.2.1.1.1) RoomE.l (Nat.le_of_ble_eq_true rfl) (c_Mo_steps hJ.2.1.1 hJ.2.1.2.1 (fun σ2 m1 u1 f2 => ?_))
  refine x_icmp_eq (tgt := 637) d_Law_law_632 (by decide) (fun c632 => ?_) (fun c632 => ?_)
  · exact hN _ _ _ _ _ ((hJ.ref m1 u1 f2).mK (by omega))
  · exact absurd rfl c632
set_option maxRecDepth 10000 in
set_option maxHeartbeats 1000000 in
theorem lc_run {G : Ctx} {bc bs a L i K : Nat} {sc : Nat → Int32} {Γ : List Sh} {σ : Mem} {X : CS} {o5 o6 : Option Value} (hS : Scr G a L sc) (hi : i + 4 ≤ L) (hL : L ≤ 1000000) (hJ : JS Γ σ K X) (hK : K + 1100 < 1000000000) (hN : ∀ Γ' σ' X' o5' o6', JS Γ' σ' (K + 1100) X' → Wq G M_Law_law (Elw G) bc bs 637 [some (.ref a), some (rf G 0), some (rf G 391), some (rf G 426), some (.int (nI i)), o5', o6'] [] [] Γ' σ') : Wq G M_Law_law (Elw G) (bc + 1) (bs + 6) 515 [some (.ref a), some (rf G 0), some (rf G 391), some (rf G 426), some (.int (nI i)), o5, o6] [] [] Γ σ := by
  first | refine x_aload_n d_Law_law_515 rfl rfl ?_ | refine x_aloadN_n d_Law_law_515 rfl rfl ?_ | refine x_aloadE_n d_Law_law_515 rfl rfl ?_ | refine x_aloadO_n d_Law_law_515 rfl rfl ?_
  refine x_aloadE_n d_Law_law_516 rfl rfl ?_
  refine x_iload d_Law_law_517 rfl ?_
  refine x_iconst (v := 1) d_Law_law_519 (by decide) ?_
  refine x_iadd d_Law_law_520 ?_
  refine Wq.top (y := nI (i + 1)) (nI_add i 1) ?_
  refine x_scld d_Law_law_521 hS (show i + 1 < L by omega) (by omega) ?_
  refine x_if_eq (tgt := 529) d_Law_law_522 (by decide) (fun c522 => ?_) (fun c522 => ?_)
  · refine x_iconst (v := 0) d_Law_law_529 (by decide) ?_
    refine x_aloadE_n d_Law_law_530 rfl rfl ?_
    refine x_iload d_Law_law_531 rfl ?_
    refine x_iconst (v := 2) d_Law_law_533 (by decide) ?_
    refine x_iadd d_Law_law_534 ?_
    refine Wq.top (y := nI (i + 2)) (nI_add i 2) ?_
    refine x_scld d_Law_law_535 hS (show i + 2 < L by omega) (by omega) ?_
    first | refine x_aload_n d_Law_law_536 rfl rfl ?_ | refine x_aloadN_n d_Law_law_536 rfl rfl ?_ | refine x_aloadE_n d_Law_law_536 rfl rfl ?_ | refine x_aloadO_n d_Law_law_536 rfl rfl ?_
    refine x_callSWg (as := [rf G 0, .int (bI false), .int (sc (i + 2)), rf G 426]) (bc := bc) (bs := bs) (mc := 1) (ms := 6) d_Law_law_537 kw_Law_run l_Law_92 z_Law_run rfl RoomE.l (Nat.le_of_ble_eq_true rfl) (c_Law_run_f hJ.1 hJ.2.2 hJ.2.1.2.2.2 hK (fun g1 => ?_) (fun g1 g2 => ?_) (fun k g0 ge g1 g2 σ1 h1 f1 => ?_))
    · have hJ := hJ.gr (e := (9, 0))
      refine x_istore d_Law_law_540 rfl ?_
      first | refine x_aload_n d_Law_law_542 rfl rfl ?_ | refine x_aloadN_n d_Law_law_542 rfl rfl ?_ | refine x_aloadE_n d_Law_law_542 rfl rfl ?_ | refine x_aloadO_n d_Law_law_542 rfl rfl ?_
      refine x_aloadE_n d_Law_law_543 rfl rfl ?_
      refine x_iload d_Law_law_544 rfl ?_
      refine x_iconst (v := 1) d_Law_law_546 (by decide) ?_
      refine x_iadd d_Law_law_547 ?_
      refine Wq.top (y := nI (i + 1)) (nI_add i 1) ?_
      refine x_scld d_Law_law_548 hS (show i + 1 < L by omega) (by omega) ?_
      refine x_if_eq (tgt := 556) d_Law_law_549 (by decide) (fun c549 => ?_) (fun c549 => ?_)
      · refine x_iconst (v := 0) d_Law_law_556 (by decide) ?_
        refine x_aloadE_n d_Law_law_557 rfl rfl ?_
        refine x_iload d_Law_law_558 rfl ?_
        refine x_iconst (v := 2) d_Law_law_560 (by decide) ?_
        refine x_iadd d_Law_law_561 ?_
        refine Wq.top (y := nI (i + 2)) (nI_add i 2) ?_
        refine x_scld d_Law_law_562 hS (show i + 2 < L by omega) (by omega) ?_
        refine x_callV2 d_Law_law_563 k_Mo_run l_Law_95 v_Mo_run rfl s_Mo_run (by first | exact hJ.1.1.1 | exact hJ.2.1.1.1 | exact hM1.1.1 | exact hJ2.2.1.1.1) RoomE.l (Nat.le_of_ble_eq_true rfl) (c_Mo_run_f hJ.2.1.1 hJ.2.1.2.1 hJ.2.1.2.2.1 hJ.2.1.2.2.2 (fun z => ?_) (fun z _ => absurd (g1.symm.trans z) (by decide)) (fun _ _ _ z => absurd (g1.symm.trans z) (by decide)))
        have hM2 := hJ.2.1.1
        refine x_istore d_Law_law_566 rfl ?_
        first | refine x_aload_n d_Law_law_568 rfl rfl ?_ | refine x_aloadN_n d_Law_law_568 rfl rfl ?_ | refine x_aloadE_n d_Law_law_568 rfl rfl ?_ | refine x_aloadO_n d_Law_law_568 rfl rfl ?_
        refine x_callV0 d_Law_law_569 k_Mo_thrown l_Law_59 v_Mo_thrown rfl s_Mo_thrown (by first | exact hJ.1.1.1 | exact hJ.2.1.1.1 | exact hM1.1.1 | exact hJ2.2.1.1.1) RoomE.l (Nat.le_of_ble_eq_true rfl) (c_Mo_thrown hM2 ?_)
        rw [wI_s]
        refine x_iload d_Law_law_572 rfl ?_
        refine x_icmp_eq (tgt := 579) d_Law_law_574 (by decide) (fun c574 => ?_) (fun c574 => ?_)
        · refine x_iload d_Law_law_579 rfl ?_
          refine x_if_ne (tgt := 596) d_Law_law_581 (by decide) (fun c581 => ?_) (fun c581 => ?_)
          · refine x_goto (tgt := 637) d_Law_law_596 (by decide) ?_
            exact hN _ _ _ _ _ (hJ.thr.mK (by omega))
          · exact absurd c581 (by decide)
        · exact absurd rfl c574
      · exact absurd c522 c549
    · have hJ := hJ.gr (e := (9, 0))
      refine x_istore d_Law_law_540 rfl ?_
      first | refine x_aload_n d_Law_law_542 rfl rfl ?_ | refine x_aloadN_n d_Law_law_542 rfl rfl ?_ | refine x_aloadE_n d_Law_law_542 rfl rfl ?_ | refine x_aloadO_n d_Law_law_542 rfl rfl ?_
      refine x_aloadE_n d_Law_law_543 rfl rfl ?_
      refine x_iload d_Law_law_544 rfl ?_
      refine x_iconst (v := 1) d_Law_law_546 (by decide) ?_
      refine x_iadd d_Law_law_547 ?_
      refine Wq.top (y := nI (i + 1)) (nI_add i 1) ?_
      refine x_scld d_Law_law_548 hS (show i + 1 < L by omega) (by omega) ?_
      refine x_if_eq (tgt := 556) d_Law_law_549 (by decide) (fun c549 => ?_) (fun c549 => ?_)
      · refine x_iconst (v := 0) d_Law_law_556 (by decide) ?_
        refine x_aloadE_n d_Law_law_557 rfl rfl ?_
        refine x_iload d_Law_law_558 rfl ?_
        refine x_iconst (v := 2) d_Law_law_560 (by decide) ?_
        refine x_iadd d_Law_law_561 ?_
        refine Wq.top (y := nI (i + 2)) (nI_add i 2) ?_
        refine x_scld d_Law_law_562 hS (show i + 2 < L by omega) (by omega) ?_
        refine x_callV2 d_Law_law_563 k_Mo_run l_Law_95 v_Mo_run rfl s_Mo_run (by first | exact hJ.1.1.1 | exact hJ.2.1.1.1 | exact hM1.1.1 | exact hJ2.2.1.1.1) RoomE.l (Nat.le_of_ble_eq_true rfl) (c_Mo_run_f hJ.2.1.1 hJ.2.1.2.1 hJ.2.1.2.2.1 hJ.2.1.2.2.2 (fun z => absurd (z.symm.trans g1) (by decide)) (fun z z2 => ?_) (fun _ _ _ _ z2 => absurd (g2.symm.trans z2) (by decide)))
        have hM2 := hJ.2.1.1
        refine x_istore d_Law_law_566 rfl ?_
        first | refine x_aload_n d_Law_law_568 rfl rfl ?_ | refine x_aloadN_n d_Law_law_568 rfl rfl ?_ | refine x_aloadE_n d_Law_law_568 rfl rfl ?_ | refine x_aloadO_n d_Law_law_568 rfl rfl ?_
        refine x_callV0 d_Law_law_569 k_Mo_thrown l_Law_59 v_Mo_thrown rfl s_Mo_thrown (by first | exact hJ.1.1.1 | exact hJ.2.1.1.1 | exact hM1.1.1 | exact hJ2.2.1.1.1) RoomE.l (Nat.le_of_ble_eq_true rfl) (c_Mo_thrown hM2 ?_)
        rw [wI_s]
        refine x_iload d_Law_law_572 rfl ?_
        refine x_icmp_eq (tgt := 579) d_Law_law_574 (by decide) (fun c574 => ?_) (fun c574 => ?_)
        · refine x_iload d_Law_law_579 rfl ?_
          refine x_if_ne (tgt := 596) d_Law_law_581 (by decide) (fun c581 => ?_) (fun c581 => ?_)
          · refine x_goto (tgt := 637) d_Law_law_596 (by decide) ?_
            exact hN _ _ _ _ _ (hJ.thr.mK (by omega))
          · exact absurd c581 (by decide)
        · exact absurd rfl c574
      · exact absurd c522 c549
    · have hJw : isCS Γ (wL σ1 426 0 ((runS X k).1).toInt64) (K + 1100) (csRn X (runS X k)) := h1.P (FrP.wL (k := 426)) (fun a h z => by omega)
      have hM1 := (hJ.2.1.cls f1).P (FrP.wL (k := 426) (j := 0) (v := ((runS X k).1).toInt64)) (fun a h1 h2 z => by omega)
      refine x_istore d_Law_law_540 rfl ?_
      first | refine x_aload_n d_Law_law_542 rfl rfl ?_ | refine x_aloadN_n d_Law_law_542 rfl rfl ?_ | refine x_aloadE_n d_Law_law_542 rfl rfl ?_ | refine x_aloadO_n d_Law_law_542 rfl rfl ?_
      refine x_aloadE_n d_Law_law_543 rfl rfl ?_
      refine x_iload d_Law_law_544 rfl ?_
      refine x_iconst (v := 1) d_Law_law_546 (by decide) ?_
      refine x_iadd d_Law_law_547 ?_
      refine Wq.top (y := nI (i + 1)) (nI_add i 1) ?_
      refine x_scld d_Law_law_548 hS (show i + 1 < L by omega) (by omega) ?_
      refine x_if_eq (tgt := 556) d_Law_law_549 (by decide) (fun c549 => ?_) (fun c549 => ?_)
      · refine x_iconst (v := 0) d_Law_law_556 (by decide) ?_
        refine x_aloadE_n d_Law_law_557 rfl rfl ?_
        refine x_iload d_Law_law_558 rfl ?_
        refine x_iconst (v := 2) d_Law_law_560 (by decide) ?_
        refine x_iadd d_Law_law_561 ?_
        refine Wq.top (y := nI (i + 2)) (nI_add i 2) ?_
        refine x_scld d_Law_law_562 hS (show i + 2 < L by omega) (by omega) ?_
        refine x_callV2 d_Law_law_563 k_Mo_run l_Law_95 v_Mo_run rfl s_Mo_run (by first | exact hJ.1.1.1 | exact hJ.2.1.1.1 | exact hM1.1.1 | exact hJ2.2.1.1.1) RoomE.l (Nat.le_of_ble_eq_true rfl) (c_Mo_run_f hM1.1 hM1.2.1 hM1.2.2.1 hM1.2.2.2 (fun z => absurd (z.symm.trans g1) (by decide)) (fun z z2 => absurd (z2.symm.trans g2) (by decide)) (fun k2 q0 qe _ _ τ q1 q2 q3 q4 q5 => ?_))
        obtain rfl : k2 = k := nI_inj (qe.symm.trans ge) (by omega) (by omega)
        have hJ2 : JS _ τ (K + 1100) (csRn X (runS X k2)) := JS.mk (X := X) hJw q3 hM1.1 q1 (hM1.2.2.1.tr q2) (hM1.2.2.2.rn q5) hJ.2.2
        have hM2 := hJ2.2.1.1
        refine x_istore d_Law_law_566 rfl ?_
        first | refine x_aload_n d_Law_law_568 rfl rfl ?_ | refine x_aloadN_n d_Law_law_568 rfl rfl ?_ | refine x_aloadE_n d_Law_law_568 rfl rfl ?_ | refine x_aloadO_n d_Law_law_568 rfl rfl ?_
        refine x_callV0 d_Law_law_569 k_Mo_thrown l_Law_59 v_Mo_thrown rfl s_Mo_thrown (by first | exact hJ.1.1.1 | exact hJ.2.1.1.1 | exact hM1.1.1 | exact hJ2.2.1.1.1) RoomE.l (Nat.le_of_ble_eq_true rfl) (c_Mo_thrown hM2 ?_)
        rw [q4]
        refine x_iload d_Law_law_572 rfl ?_
        refine x_icmp_eq (tgt := 579) d_Law_law_574 (by decide) (fun c574 => ?_) (fun c574 => ?_)
        · refine x_iload d_Law_law_579 rfl ?_
          refine x_if_ne (tgt := 596) d_Law_law_581 (by decide) (fun c581 => ?_) (fun c581 => ?_)
          · exact absurd rfl c581
          · first | refine x_aload_n d_Law_law_584 rfl rfl ?_ | refine x_aloadN_n d_Law_law_584 rfl rfl ?_ | refine x_aloadE_n d_Law_law_584 rfl rfl ?_ | refine x_aloadO_n d_Law_law_584 rfl rfl ?_
            refine x_iconst (v := 0) d_Law_law_585 (by decide) ?_
            refine x_lald d_Law_law_586 (by exact hJ2.2.2) (show vp_in (nI 0) 1 from vp_in_nI (by decide) (by decide)) ?_
            rw [show τ.2.2 426 (0 : Int32).toNatClampNeg = ((runS X k2).1).toInt64 by rw [q3.1]; exact wL_v]
            refine x_iload d_Law_law_587 rfl ?_
            refine x_i2l d_Law_law_589 ?_
            refine x_lcmp d_Law_law_590 ?_
            refine x_if_eq (tgt := 596) d_Law_law_591 (by decide) (fun c591 => ?_) (fun c591 => ?_)
            · refine x_goto (tgt := 637) d_Law_law_596 (by decide) ?_
              exact hN _ _ _ _ _ (hJ2.mK (by omega))
            · exact absurd lg_cmp_rf c591
        · exact absurd rfl c574
      · exact absurd c522 c549
  · refine x_iconst (v := 1) d_Law_law_525 (by decide) ?_
    refine x_goto (tgt := 530) d_Law_law_526 (by decide) ?_
    refine x_aloadE_n d_Law_law_530 rfl rfl ?_
    refine x_iload d_Law_law_531 rfl ?_
    refine x_iconst (v := 2) d_Law_law_533 (by decide) ?_
    refine x_iadd d_Law_law_534 ?_
    refine Wq.top (y := nI (i + 2)) (nI_add i 2) ?_
    refine x_scld d_Law_law_535 hS (show i + 2 < L by omega) (by omega) ?_
    first | refine x_aload_n d_Law_law_536 rfl rfl ?_ | refine x_aloadN_n d_Law_law_536 rfl rfl ?_ | refine x_aloadE_n d_Law_law_536 rfl rfl ?_ | refine x_aloadO_n d_Law_law_536 rfl rfl ?_
    refine x_callSWg (as := [rf G 0, .int (bI true), .int (sc (i + 2)), rf G 426]) (bc := bc) (bs := bs) (mc := 1) (ms := 6) d_Law_law_537 kw_Law_run l_Law_92 z_Law_run rfl RoomE.l (Nat.le_of_ble_eq_true rfl) (c_Law_run_t hJ.1 hJ.2.2 hJ.2.1.2.2.2 hK hJ.2.1.2.2.1.bw (fun g1 => ?_) (fun g1 g2 => ?_) (fun k g0 ge g1 g2 σ1 h1 f1 => ?_))
    · have hJ := hJ.gr (e := (9, 0))
      refine x_istore d_Law_law_540 rfl ?_
      first | refine x_aload_n d_Law_law_542 rfl rfl ?_ | refine x_aloadN_n d_Law_law_542 rfl rfl ?_ | refine x_aloadE_n d_Law_law_542 rfl rfl ?_ | refine x_aloadO_n d_Law_law_542 rfl rfl ?_
      refine x_aloadE_n d_Law_law_543 rfl rfl ?_
      refine x_iload d_Law_law_544 rfl ?_
      refine x_iconst (v := 1) d_Law_law_546 (by decide) ?_
      refine x_iadd d_Law_law_547 ?_
      refine Wq.top (y := nI (i + 1)) (nI_add i 1) ?_
      refine x_scld d_Law_law_548 hS (show i + 1 < L by omega) (by omega) ?_
      refine x_if_eq (tgt := 556) d_Law_law_549 (by decide) (fun c549 => ?_) (fun c549 => ?_)
      · exact absurd c549 c522
      · refine x_iconst (v := 1) d_Law_law_552 (by decide) ?_
        refine x_goto (tgt := 557) d_Law_law_553 (by decide) ?_
        refine x_aloadE_n d_Law_law_557 rfl rfl ?_
        refine x_iload d_Law_law_558 rfl ?_
        refine x_iconst (v := 2) d_Law_law_560 (by decide) ?_
        refine x_iadd d_Law_law_561 ?_
        refine Wq.top (y := nI (i + 2)) (nI_add i 2) ?_
        refine x_scld d_Law_law_562 hS (show i + 2 < L by omega) (by omega) ?_
        refine x_callV2 d_Law_law_563 k_Mo_run l_Law_95 v_Mo_run rfl s_Mo_run (by first | exact hJ.1.1.1 | exact hJ.2.1.1.1 | exact hM1.1.1 | exact hJ2.2.1.1.1) RoomE.l (Nat.le_of_ble_eq_true rfl) (c_Mo_run_t hJ.2.1.1 hJ.2.1.2.1 hJ.2.1.2.2.1 hJ.2.1.2.2.2 (fun z => ?_) (fun z _ => absurd (g1.symm.trans z) (by decide)) (fun _ _ _ z => absurd (g1.symm.trans z) (by decide)))
        have hM2 := hJ.2.1.1
        refine x_istore d_Law_law_566 rfl ?_
        first | refine x_aload_n d_Law_law_568 rfl rfl ?_ | refine x_aloadN_n d_Law_law_568 rfl rfl ?_ | refine x_aloadE_n d_Law_law_568 rfl rfl ?_ | refine x_aloadO_n d_Law_law_568 rfl rfl ?_
        refine x_callV0 d_Law_law_569 k_Mo_thrown l_Law_59 v_Mo_thrown rfl s_Mo_thrown (by first | exact hJ.1.1.1 | exact hJ.2.1.1.1 | exact hM1.1.1 | exact hJ2.2.1.1.1) RoomE.l (Nat.le_of_ble_eq_true rfl) (c_Mo_thrown hM2 ?_)
        rw [wI_s]
        refine x_iload d_Law_law_572 rfl ?_
        refine x_icmp_eq (tgt := 579) d_Law_law_574 (by decide) (fun c574 => ?_) (fun c574 => ?_)
        · refine x_iload d_Law_law_579 rfl ?_
          refine x_if_ne (tgt := 596) d_Law_law_581 (by decide) (fun c581 => ?_) (fun c581 => ?_)
          · refine x_goto (tgt := 637) d_Law_law_596 (by decide) ?_
            exact hN _ _ _ _ _ (hJ.thr.mK (by omega))
          · exact absurd c581 (by decide)
        · exact absurd rfl c574
    · have hJ := hJ.gr (e := (9, 0))
      refine x_istore d_Law_law_540 rfl ?_
      first | refine x_aload_n d_Law_law_542 rfl rfl ?_ | refine x_aloadN_n d_Law_law_542 rfl rfl ?_ | refine x_aloadE_n d_Law_law_542 rfl rfl ?_ | refine x_aloadO_n d_Law_law_542 rfl rfl ?_
      refine x_aloadE_n d_Law_law_543 rfl rfl ?_
      refine x_iload d_Law_law_544 rfl ?_
      refine x_iconst (v := 1) d_Law_law_546 (by decide) ?_
      refine x_iadd d_Law_law_547 ?_
      refine Wq.top (y := nI (i + 1)) (nI_add i 1) ?_
      refine x_scld d_Law_law_548 hS (show i + 1 < L by omega) (by omega) ?_
      refine x_if_eq (tgt := 556) d_Law_law_549 (by decide) (fun c549 => ?_) (fun c549 => ?_)
      · exact absurd c549 c522
      · refine x_iconst (v := 1) d_Law_law_552 (by decide) ?_
        refine x_goto (tgt := 557) d_Law_law_553 (by decide) ?_
        refine x_aloadE_n d_Law_law_557 rfl rfl ?_
        refine x_iload d_Law_law_558 rfl ?_
        refine x_iconst (v := 2) d_Law_law_560 (by decide) ?_
        refine x_iadd d_Law_law_561 ?_
        refine Wq.top (y := nI (i + 2)) (nI_add i 2) ?_
        refine x_scld d_Law_law_562 hS (show i + 2 < L by omega) (by omega) ?_
        refine x_callV2 d_Law_law_563 k_Mo_run l_Law_95 v_Mo_run rfl s_Mo_run (by first | exact hJ.1.1.1 | exact hJ.2.1.1.1 | exact hM1.1.1 | exact hJ2.2.1.1.1) RoomE.l (Nat.le_of_ble_eq_true rfl) (c_Mo_run_t hJ.2.1.1 hJ.2.1.2.1 hJ.2.1.2.2.1 hJ.2.1.2.2.2 (fun z => absurd (z.symm.trans g1) (by decide)) (fun z z2 => ?_) (fun _ _ _ _ z2 => absurd (g2.symm.trans z2) (by decide)))
        have hM2 := hJ.2.1.1
        refine x_istore d_Law_law_566 rfl ?_
        first | refine x_aload_n d_Law_law_568 rfl rfl ?_ | refine x_aloadN_n d_Law_law_568 rfl rfl ?_ | refine x_aloadE_n d_Law_law_568 rfl rfl ?_ | refine x_aloadO_n d_Law_law_568 rfl rfl ?_
        refine x_callV0 d_Law_law_569 k_Mo_thrown l_Law_59 v_Mo_thrown rfl s_Mo_thrown (by first | exact hJ.1.1.1 | exact hJ.2.1.1.1 | exact hM1.1.1 | exact hJ2.2.1.1.1) RoomE.l (Nat.le_of_ble_eq_true rfl) (c_Mo_thrown hM2 ?_)
        rw [wI_s]
        refine x_iload d_Law_law_572 rfl ?_
        refine x_icmp_eq (tgt := 579) d_Law_law_574 (by decide) (fun c574 => ?_) (fun c574 => ?_)
        · refine x_iload d_Law_law_579 rfl ?_
          refine x_if_ne (tgt := 596) d_Law_law_581 (by decide) (fun c581 => ?_) (fun c581 => ?_)
          · refine x_goto (tgt := 637) d_Law_law_596 (by decide) ?_
            exact hN _ _ _ _ _ (hJ.thr.mK (by omega))
          · exact absurd c581 (by decide)
        · exact absurd rfl c574
    · have hJw : isCS Γ (wL σ1 426 0 ((runT X k).1).toInt64) (K + 1100) (csRn X (runT X k)) := h1.P (FrP.wL (k := 426)) (fun a h z => by omega)
      have hM1 := (hJ.2.1.cls f1).P (FrP.wL (k := 426) (j := 0) (v := ((runT X k).1).toInt64)) (fun a h1 h2 z => by omega)
      refine x_istore d_Law_law_540 rfl ?_
      first | refine x_aload_n d_Law_law_542 rfl rfl ?_ | refine x_aloadN_n d_Law_law_542 rfl rfl ?_ | refine x_aloadE_n d_Law_law_542 rfl rfl ?_ | refine x_aloadO_n d_Law_law_542 rfl rfl ?_
      refine x_aloadE_n d_Law_law_543 rfl rfl ?_
      refine x_iload d_Law_law_544 rfl ?_
      refine x_iconst (v := 1) d_Law_law_546 (by decide) ?_
      refine x_iadd d_Law_law_547 ?_
      refine Wq.top (y := nI (i + 1)) (nI_add i 1) ?_
      refine x_scld d_Law_law_548 hS (show i + 1 < L by omega) (by omega) ?_
      refine x_if_eq (tgt := 556) d_Law_law_549 (by decide) (fun c549 => ?_) (fun c549 => ?_)
      · exact absurd c549 c522
      · refine x_iconst (v := 1) d_Law_law_552 (by decide) ?_
        refine x_goto (tgt := 557) d_Law_law_553 (by decide) ?_
        refine x_aloadE_n d_Law_law_557 rfl rfl ?_
        refine x_iload d_Law_law_558 rfl ?_
        refine x_iconst (v := 2) d_Law_law_560 (by decide) ?_
        refine x_iadd d_Law_law_561 ?_
        refine Wq.top (y := nI (i + 2)) (nI_add i 2) ?_
        refine x_scld d_Law_law_562 hS (show i + 2 < L by omega) (by omega) ?_
        refine x_callV2 d_Law_law_563 k_Mo_run l_Law_95 v_Mo_run rfl s_Mo_run (by first | exact hJ.1.1.1 | exact hJ.2.1.1.1 | exact hM1.1.1 | exact hJ2.2.1.1.1) RoomE.l (Nat.le_of_ble_eq_true rfl) (c_Mo_run_t hM1.1 hM1.2.1 hM1.2.2.1 hM1.2.2.2 (fun z => absurd (z.symm.trans g1) (by decide)) (fun z z2 => absurd (z2.symm.trans g2) (by decide)) (fun k2 q0 qe _ _ τ q1 q2 q3 q4 q5 => ?_))
        obtain rfl : k2 = k := nI_inj (qe.symm.trans ge) (by omega) (by omega)
        have hJ2 : JS _ τ (K + 1100) (csRn X (runT X k2)) := JS.mk (X := X) hJw q3 hM1.1 q1 (hM1.2.2.1.tr q2) (hM1.2.2.2.rn q5) hJ.2.2
        have hM2 := hJ2.2.1.1
        refine x_istore d_Law_law_566 rfl ?_
        first | refine x_aload_n d_Law_law_568 rfl rfl ?_ | refine x_aloadN_n d_Law_law_568 rfl rfl ?_ | refine x_aloadE_n d_Law_law_568 rfl rfl ?_ | refine x_aloadO_n d_Law_law_568 rfl rfl ?_
        refine x_callV0 d_Law_law_569 k_Mo_thrown l_Law_59 v_Mo_thrown rfl s_Mo_thrown (by first | exact hJ.1.1.1 | exact hJ.2.1.1.1 | exact hM1.1.1 | exact hJ2.2.1.1.1) RoomE.l (Nat.le_of_ble_eq_true rfl) (c_Mo_thrown hM2 ?_)
        rw [q4]
        refine x_iload d_Law_law_572 rfl ?_
        refine x_icmp_eq (tgt := 579) d_Law_law_574 (by decide) (fun c574 => ?_) (fun c574 => ?_)
        · refine x_iload d_Law_law_579 rfl ?_
          refine x_if_ne (tgt := 596) d_Law_law_581 (by decide) (fun c581 => ?_) (fun c581 => ?_)
          · exact absurd rfl c581
          · first | refine x_aload_n d_Law_law_584 rfl rfl ?_ | refine x_aloadN_n d_Law_law_584 rfl rfl ?_ | refine x_aloadE_n d_Law_law_584 rfl rfl ?_ | refine x_aloadO_n d_Law_law_584 rfl rfl ?_
            refine x_iconst (v := 0) d_Law_law_585 (by decide) ?_
            refine x_lald d_Law_law_586 (by exact hJ2.2.2) (show vp_in (nI 0) 1 from vp_in_nI (by decide) (by decide)) ?_
            rw [show τ.2.2 426 (0 : Int32).toNatClampNeg = ((runT X k2).1).toInt64 by rw [q3.1]; exact wL_v]
            refine x_iload d_Law_law_587 rfl ?_
            refine x_i2l d_Law_law_589 ?_
            refine x_lcmp d_Law_law_590 ?_
            refine x_if_eq (tgt := 596) d_Law_law_591 (by decide) (fun c591 => ?_) (fun c591 => ?_)
            · refine x_goto (tgt := 637) d_Law_law_596 (by decide) ?_
              exact hN _ _ _ _ _ (hJ2.mK (by omega))
            · exact absurd lg_cmp_rf c591
        · exact absurd rfl c574
