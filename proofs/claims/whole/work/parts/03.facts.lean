theorem kc_SD : KC 0 R_SD T_SD 9 := ⟨rfl, by decide +kernel, by decide +kernel, by decide +kernel⟩
theorem kc_Row : KC 1 R_Row T_Row 3 := ⟨rfl, by decide +kernel, by decide +kernel, by decide +kernel⟩
theorem kc_Substitution : KC 2 R_Substitution T_Substitution 5 := ⟨rfl, by decide +kernel, by decide +kernel, by decide +kernel⟩
theorem kc_Signs : KC 3 R_Signs T_Signs 5 := ⟨rfl, by decide +kernel, by decide +kernel, by decide +kernel⟩
theorem kc_SourceProgram : KC 4 R_SourceProgram T_SourceProgram 3 := ⟨rfl, by decide +kernel, by decide +kernel, by decide +kernel⟩
theorem kc_Tree : KC 5 R_Tree T_Tree 4 := ⟨rfl, by decide +kernel, by decide +kernel, by decide +kernel⟩
theorem kc_Node : KC 6 R_Node T_Node 14 := ⟨rfl, by decide +kernel, by decide +kernel, by decide +kernel⟩
theorem kc_Driver : KC 7 R_Driver T_Driver 8 := ⟨rfl, by decide +kernel, by decide +kernel, by decide +kernel⟩
theorem kc_Generaliser : KC 8 R_Generaliser T_Generaliser 7 := ⟨rfl, by decide +kernel, by decide +kernel, by decide +kernel⟩
theorem kc_ResidualProgram : KC 9 R_ResidualProgram T_ResidualProgram 3 := ⟨rfl, by decide +kernel, by decide +kernel, by decide +kernel⟩
theorem kc_Runner : KC 10 R_Runner T_Runner 6 := ⟨rfl, by decide +kernel, by decide +kernel, by decide +kernel⟩
theorem kc_Mo : KC 11 R_Mo T_Mo 47 := ⟨rfl, by decide +kernel, by decide +kernel, by decide +kernel⟩
theorem k_SD_init : LK M_SD_init 0 := ⟨⟨tb1_in (i := 26) rfl, rfl⟩, ⟨tb1_in (i := 1) rfl, rfl⟩, ⟨by decide, by decide⟩, by decide +kernel, rfl, by decide⟩
theorem v_SD_init : gd (.instanceMethod (my M_SD_init)) := ⟨tb1_in (i := 25) rfl, rfl⟩
theorem k_SD_allInputsAreThere : LK M_SD_allInputsAreThere 0 := ⟨⟨tb5_in (i := 1) rfl, rfl⟩, ⟨tb1_in (i := 1) rfl, rfl⟩, ⟨by decide, by decide⟩, by decide +kernel, rfl, by decide⟩
theorem v_SD_allInputsAreThere : gd (.instanceMethod (my M_SD_allInputsAreThere)) := ⟨tb5_in (i := 0) rfl, rfl⟩
theorem s_SD_allInputsAreThere : gd (.selects "SuperDriver" (my M_SD_allInputsAreThere) (my M_SD_allInputsAreThere)) := ⟨pv_in (i := 20) rfl, rfl⟩
theorem k_SD_body : LK M_SD_body 2 := ⟨⟨tb3_in (i := 108) rfl, rfl⟩, ⟨tb1_in (i := 1) rfl, rfl⟩, ⟨by decide, by decide⟩, by decide +kernel, rfl, by decide⟩
theorem v_SD_body : gd (.instanceMethod (my M_SD_body)) := ⟨tb3_in (i := 106) rfl, rfl⟩
theorem s_SD_body : gd (.selects "SuperDriver" (my M_SD_body) (my M_SD_body)) := ⟨tb3_in (i := 107) rfl, rfl⟩
theorem k_SD_drive : LK M_SD_drive 0 := ⟨⟨tb3_in (i := 154) rfl, rfl⟩, ⟨tb1_in (i := 1) rfl, rfl⟩, ⟨by decide, by decide⟩, by decide +kernel, rfl, by decide⟩
theorem v_SD_drive : gd (.instanceMethod (my M_SD_drive)) := ⟨tb3_in (i := 152) rfl, rfl⟩
theorem s_SD_drive : gd (.selects "SuperDriver" (my M_SD_drive) (my M_SD_drive)) := ⟨tb3_in (i := 153) rfl, rfl⟩
theorem k_SD_forget : LK M_SD_forget 0 := ⟨⟨tb2_in (i := 144) rfl, rfl⟩, ⟨tb1_in (i := 1) rfl, rfl⟩, ⟨by decide, by decide⟩, by decide +kernel, rfl, by decide⟩
theorem v_SD_forget : gd (.instanceMethod (my M_SD_forget)) := ⟨tb2_in (i := 142) rfl, rfl⟩
theorem s_SD_forget : gd (.selects "SuperDriver" (my M_SD_forget) (my M_SD_forget)) := ⟨tb2_in (i := 143) rfl, rfl⟩
theorem k_SD_function : LK M_SD_function 3 := ⟨⟨tb3_in (i := 8) rfl, rfl⟩, ⟨tb1_in (i := 1) rfl, rfl⟩, ⟨by decide, by decide⟩, by decide +kernel, rfl, by decide⟩
theorem v_SD_function : gd (.instanceMethod (my M_SD_function)) := ⟨tb3_in (i := 6) rfl, rfl⟩
theorem s_SD_function : gd (.selects "SuperDriver" (my M_SD_function) (my M_SD_function)) := ⟨tb3_in (i := 7) rfl, rfl⟩
theorem k_SD_goal : LK M_SD_goal 0 := ⟨⟨tb3_in (i := 144) rfl, rfl⟩, ⟨tb1_in (i := 1) rfl, rfl⟩, ⟨by decide, by decide⟩, by decide +kernel, rfl, by decide⟩
theorem v_SD_goal : gd (.instanceMethod (my M_SD_goal)) := ⟨tb3_in (i := 142) rfl, rfl⟩
theorem s_SD_goal : gd (.selects "SuperDriver" (my M_SD_goal) (my M_SD_goal)) := ⟨tb3_in (i := 143) rfl, rfl⟩
theorem k_SD_input : LK M_SD_input 1 := ⟨⟨tb2_in (i := 168) rfl, rfl⟩, ⟨tb1_in (i := 1) rfl, rfl⟩, ⟨by decide, by decide⟩, by decide +kernel, rfl, by decide⟩
theorem v_SD_input : gd (.instanceMethod (my M_SD_input)) := ⟨tb2_in (i := 166) rfl, rfl⟩
theorem s_SD_input : gd (.selects "SuperDriver" (my M_SD_input) (my M_SD_input)) := ⟨tb2_in (i := 167) rfl, rfl⟩
theorem k_SD_isCall : LK M_SD_isCall 1 := ⟨⟨tb2_in (i := 155) rfl, rfl⟩, ⟨tb1_in (i := 1) rfl, rfl⟩, ⟨by decide, by decide⟩, by decide +kernel, rfl, by decide⟩
theorem z_SD_isCall : gd (.static (my M_SD_isCall)) := ⟨tb2_in (i := 154) rfl, rfl⟩
theorem k_SD_isConstructor : LK M_SD_isConstructor 1 := ⟨⟨tb2_in (i := 180) rfl, rfl⟩, ⟨tb1_in (i := 1) rfl, rfl⟩, ⟨by decide, by decide⟩, by decide +kernel, rfl, by decide⟩
theorem z_SD_isConstructor : gd (.static (my M_SD_isConstructor)) := ⟨tb2_in (i := 179) rfl, rfl⟩
theorem k_SD_isVariable : LK M_SD_isVariable 1 := ⟨⟨tb3_in (i := 126) rfl, rfl⟩, ⟨tb1_in (i := 1) rfl, rfl⟩, ⟨by decide, by decide⟩, by decide +kernel, rfl, by decide⟩
theorem z_SD_isVariable : gd (.static (my M_SD_isVariable)) := ⟨tb3_in (i := 125) rfl, rfl⟩
theorem k_SD_letterAt : LK M_SD_letterAt 2 := ⟨⟨tb2_in (i := 121) rfl, rfl⟩, ⟨tb1_in (i := 1) rfl, rfl⟩, ⟨by decide, by decide⟩, by decide +kernel, rfl, by decide⟩
theorem z_SD_letterAt : gd (.static (my M_SD_letterAt)) := ⟨tb2_in (i := 120) rfl, rfl⟩
theorem k_SD_node : LK M_SD_node 2 := ⟨⟨tb2_in (i := 207) rfl, rfl⟩, ⟨tb1_in (i := 1) rfl, rfl⟩, ⟨by decide, by decide⟩, by decide +kernel, rfl, by decide⟩
theorem v_SD_node : gd (.instanceMethod (my M_SD_node)) := ⟨tb2_in (i := 205) rfl, rfl⟩
theorem s_SD_node : gd (.selects "SuperDriver" (my M_SD_node) (my M_SD_node)) := ⟨tb2_in (i := 206) rfl, rfl⟩
theorem k_SD_partsOfConstructor : LK M_SD_partsOfConstructor 1 := ⟨⟨tb3_in (i := 120) rfl, rfl⟩, ⟨tb1_in (i := 1) rfl, rfl⟩, ⟨by decide, by decide⟩, by decide +kernel, rfl, by decide⟩
theorem z_SD_partsOfConstructor : gd (.static (my M_SD_partsOfConstructor)) := ⟨tb3_in (i := 119) rfl, rfl⟩
theorem k_SD_residual : LK M_SD_residual 2 := ⟨⟨tb2_in (i := 220) rfl, rfl⟩, ⟨tb1_in (i := 1) rfl, rfl⟩, ⟨by decide, by decide⟩, by decide +kernel, rfl, by decide⟩
theorem v_SD_residual : gd (.instanceMethod (my M_SD_residual)) := ⟨tb2_in (i := 218) rfl, rfl⟩
theorem s_SD_residual : gd (.selects "SuperDriver" (my M_SD_residual) (my M_SD_residual)) := ⟨tb2_in (i := 219) rfl, rfl⟩
theorem k_SD_result : LK M_SD_result 1 := ⟨⟨tb2_in (i := 224) rfl, rfl⟩, ⟨tb1_in (i := 1) rfl, rfl⟩, ⟨by decide, by decide⟩, by decide +kernel, rfl, by decide⟩
theorem v_SD_result : gd (.instanceMethod (my M_SD_result)) := ⟨tb2_in (i := 222) rfl, rfl⟩
theorem s_SD_result : gd (.selects "SuperDriver" (my M_SD_result) (my M_SD_result)) := ⟨tb2_in (i := 223) rfl, rfl⟩
theorem k_SD_run : LK M_SD_run 2 := ⟨⟨tb4_in (i := 232) rfl, rfl⟩, ⟨tb1_in (i := 1) rfl, rfl⟩, ⟨by decide, by decide⟩, by decide +kernel, rfl, by decide⟩
theorem v_SD_run : gd (.instanceMethod (my M_SD_run)) := ⟨tb4_in (i := 230) rfl, rfl⟩
theorem s_SD_run : gd (.selects "SuperDriver" (my M_SD_run) (my M_SD_run)) := ⟨tb4_in (i := 231) rfl, rfl⟩
theorem k_SD_signOf : LK M_SD_signOf 1 := ⟨⟨tb2_in (i := 124) rfl, rfl⟩, ⟨tb1_in (i := 1) rfl, rfl⟩, ⟨by decide, by decide⟩, by decide +kernel, rfl, by decide⟩
theorem z_SD_signOf : gd (.static (my M_SD_signOf)) := ⟨tb2_in (i := 123) rfl, rfl⟩
theorem k_SD_steps : LK M_SD_steps 0 := ⟨⟨tb2_in (i := 235) rfl, rfl⟩, ⟨tb1_in (i := 1) rfl, rfl⟩, ⟨by decide, by decide⟩, by decide +kernel, rfl, by decide⟩
theorem v_SD_steps : gd (.instanceMethod (my M_SD_steps)) := ⟨tb2_in (i := 233) rfl, rfl⟩
theorem s_SD_steps : gd (.selects "SuperDriver" (my M_SD_steps) (my M_SD_steps)) := ⟨tb2_in (i := 234) rfl, rfl⟩
theorem k_SD_term : LK M_SD_term 2 := ⟨⟨tb2_in (i := 215) rfl, rfl⟩, ⟨tb1_in (i := 1) rfl, rfl⟩, ⟨by decide, by decide⟩, by decide +kernel, rfl, by decide⟩
theorem v_SD_term : gd (.instanceMethod (my M_SD_term)) := ⟨tb2_in (i := 213) rfl, rfl⟩
theorem s_SD_term : gd (.selects "SuperDriver" (my M_SD_term) (my M_SD_term)) := ⟨tb2_in (i := 214) rfl, rfl⟩
theorem k_SD_type : LK M_SD_type 1 := ⟨⟨tb2_in (i := 118) rfl, rfl⟩, ⟨tb1_in (i := 1) rfl, rfl⟩, ⟨by decide, by decide⟩, by decide +kernel, rfl, by decide⟩
theorem v_SD_type : gd (.instanceMethod (my M_SD_type)) := ⟨tb2_in (i := 116) rfl, rfl⟩
theorem s_SD_type : gd (.selects "SuperDriver" (my M_SD_type) (my M_SD_type)) := ⟨tb2_in (i := 117) rfl, rfl⟩
theorem k_SD_wipe : LK M_SD_wipe 0 := ⟨⟨tb2_in (i := 136) rfl, rfl⟩, ⟨tb1_in (i := 1) rfl, rfl⟩, ⟨by decide, by decide⟩, by decide +kernel, rfl, by decide⟩
theorem v_SD_wipe : gd (.instanceMethod (my M_SD_wipe)) := ⟨tb2_in (i := 134) rfl, rfl⟩
theorem s_SD_wipe : gd (.selects "SuperDriver" (my M_SD_wipe) (my M_SD_wipe)) := ⟨tb2_in (i := 135) rfl, rfl⟩
theorem k_Driver_init : LK M_Driver_init 4 := ⟨⟨tb1_in (i := 229) rfl, rfl⟩, ⟨tb1_in (i := 10) rfl, rfl⟩, ⟨by decide, by decide⟩, by decide +kernel, rfl, by decide⟩
theorem v_Driver_init : gd (.instanceMethod (my M_Driver_init)) := ⟨tb1_in (i := 228) rfl, rfl⟩
theorem k_Driver_addClause : LK M_Driver_addClause 4 := ⟨⟨tb4_in (i := 163) rfl, rfl⟩, ⟨tb1_in (i := 10) rfl, rfl⟩, ⟨by decide, by decide⟩, by decide +kernel, rfl, by decide⟩
theorem v_Driver_addClause : gd (.instanceMethod (my M_Driver_addClause)) := ⟨tb4_in (i := 162) rfl, rfl⟩
theorem s_Driver_addClause : gd (.selects "SuperDriver$Driver" (my M_Driver_addClause) (my M_Driver_addClause)) := ⟨pv_in (i := 15) rfl, rfl⟩
theorem k_Driver_begin : LK M_Driver_begin 1 := ⟨⟨tb3_in (i := 163) rfl, rfl⟩, ⟨tb1_in (i := 10) rfl, rfl⟩, ⟨by decide, by decide⟩, by decide +kernel, rfl, by decide⟩
theorem v_Driver_begin : gd (.instanceMethod (my M_Driver_begin)) := ⟨tb3_in (i := 161) rfl, rfl⟩
theorem s_Driver_begin : gd (.selects "SuperDriver$Driver" (my M_Driver_begin) (my M_Driver_begin)) := ⟨tb3_in (i := 162) rfl, rfl⟩
theorem k_Driver_embeddedRival : LK M_Driver_embeddedRival 2 := ⟨⟨tb4_in (i := 30) rfl, rfl⟩, ⟨tb1_in (i := 10) rfl, rfl⟩, ⟨by decide, by decide⟩, by decide +kernel, rfl, by decide⟩
theorem v_Driver_embeddedRival : gd (.instanceMethod (my M_Driver_embeddedRival)) := ⟨tb4_in (i := 29) rfl, rfl⟩
theorem s_Driver_embeddedRival : gd (.selects "SuperDriver$Driver" (my M_Driver_embeddedRival) (my M_Driver_embeddedRival)) := ⟨pv_in (i := 3) rfl, rfl⟩
theorem k_Driver_nextRival : LK M_Driver_nextRival 2 := ⟨⟨tb4_in (i := 16) rfl, rfl⟩, ⟨tb1_in (i := 10) rfl, rfl⟩, ⟨by decide, by decide⟩, by decide +kernel, rfl, by decide⟩
theorem z_Driver_nextRival : gd (.static (my M_Driver_nextRival)) := ⟨tb4_in (i := 15) rfl, rfl⟩
theorem k_Driver_renamedRival : LK M_Driver_renamedRival 2 := ⟨⟨tb4_in (i := 13) rfl, rfl⟩, ⟨tb1_in (i := 10) rfl, rfl⟩, ⟨by decide, by decide⟩, by decide +kernel, rfl, by decide⟩
theorem z_Driver_renamedRival : gd (.static (my M_Driver_renamedRival)) := ⟨tb4_in (i := 12) rfl, rfl⟩
theorem k_Driver_settle : LK M_Driver_settle 1 := ⟨⟨tb3_in (i := 199) rfl, rfl⟩, ⟨tb1_in (i := 10) rfl, rfl⟩, ⟨by decide, by decide⟩, by decide +kernel, rfl, by decide⟩
theorem v_Driver_settle : gd (.instanceMethod (my M_Driver_settle)) := ⟨tb3_in (i := 197) rfl, rfl⟩
theorem s_Driver_settle : gd (.selects "SuperDriver$Driver" (my M_Driver_settle) (my M_Driver_settle)) := ⟨tb3_in (i := 198) rfl, rfl⟩
theorem k_Driver_settleWithoutCall : LK M_Driver_settleWithoutCall 1 := ⟨⟨tb3_in (i := 210) rfl, rfl⟩, ⟨tb1_in (i := 10) rfl, rfl⟩, ⟨by decide, by decide⟩, by decide +kernel, rfl, by decide⟩
theorem v_Driver_settleWithoutCall : gd (.instanceMethod (my M_Driver_settleWithoutCall)) := ⟨tb3_in (i := 209) rfl, rfl⟩
theorem s_Driver_settleWithoutCall : gd (.selects "SuperDriver$Driver" (my M_Driver_settleWithoutCall) (my M_Driver_settleWithoutCall)) := ⟨pv_in (i := 2) rfl, rfl⟩
theorem k_Driver_split : LK M_Driver_split 2 := ⟨⟨tb4_in (i := 158) rfl, rfl⟩, ⟨tb1_in (i := 10) rfl, rfl⟩, ⟨by decide, by decide⟩, by decide +kernel, rfl, by decide⟩
theorem v_Driver_split : gd (.instanceMethod (my M_Driver_split)) := ⟨tb4_in (i := 157) rfl, rfl⟩
theorem s_Driver_split : gd (.selects "SuperDriver$Driver" (my M_Driver_split) (my M_Driver_split)) := ⟨pv_in (i := 14) rfl, rfl⟩
theorem k_Driver_step : LK M_Driver_step 2 := ⟨⟨tb4_in (i := 113) rfl, rfl⟩, ⟨tb1_in (i := 10) rfl, rfl⟩, ⟨by decide, by decide⟩, by decide +kernel, rfl, by decide⟩
theorem v_Driver_step : gd (.instanceMethod (my M_Driver_step)) := ⟨tb4_in (i := 112) rfl, rfl⟩
theorem s_Driver_step : gd (.selects "SuperDriver$Driver" (my M_Driver_step) (my M_Driver_step)) := ⟨pv_in (i := 13) rfl, rfl⟩
theorem k_Generaliser_init : LK M_Generaliser_init 2 := ⟨⟨tb1_in (i := 237) rfl, rfl⟩, ⟨tb1_in (i := 11) rfl, rfl⟩, ⟨by decide, by decide⟩, by decide +kernel, rfl, by decide⟩
theorem v_Generaliser_init : gd (.instanceMethod (my M_Generaliser_init)) := ⟨tb1_in (i := 236) rfl, rfl⟩
theorem k_Generaliser_generalise : LK M_Generaliser_generalise 2 := ⟨⟨tb4_in (i := 61) rfl, rfl⟩, ⟨tb1_in (i := 11) rfl, rfl⟩, ⟨by decide, by decide⟩, by decide +kernel, rfl, by decide⟩
theorem v_Generaliser_generalise : gd (.instanceMethod (my M_Generaliser_generalise)) := ⟨tb4_in (i := 59) rfl, rfl⟩
theorem s_Generaliser_generalise : gd (.selects "SuperDriver$Generaliser" (my M_Generaliser_generalise) (my M_Generaliser_generalise)) := ⟨tb4_in (i := 60) rfl, rfl⟩
theorem k_Generaliser_let : LK M_Generaliser_let 2 := ⟨⟨tb4_in (i := 82) rfl, rfl⟩, ⟨tb1_in (i := 11) rfl, rfl⟩, ⟨by decide, by decide⟩, by decide +kernel, rfl, by decide⟩
theorem v_Generaliser_let : gd (.instanceMethod (my M_Generaliser_let)) := ⟨tb4_in (i := 81) rfl, rfl⟩
theorem s_Generaliser_let : gd (.selects "SuperDriver$Generaliser" (my M_Generaliser_let) (my M_Generaliser_let)) := ⟨pv_in (i := 10) rfl, rfl⟩
theorem k_Generaliser_metBefore : LK M_Generaliser_metBefore 6 := ⟨⟨tb4_in (i := 93) rfl, rfl⟩, ⟨tb1_in (i := 11) rfl, rfl⟩, ⟨by decide, by decide⟩, by decide +kernel, rfl, by decide⟩
theorem v_Generaliser_metBefore : gd (.instanceMethod (my M_Generaliser_metBefore)) := ⟨tb4_in (i := 92) rfl, rfl⟩
theorem s_Generaliser_metBefore : gd (.selects "SuperDriver$Generaliser" (my M_Generaliser_metBefore) (my M_Generaliser_metBefore)) := ⟨pv_in (i := 12) rfl, rfl⟩
theorem k_Generaliser_newVariable : LK M_Generaliser_newVariable 2 := ⟨⟨tb4_in (i := 73) rfl, rfl⟩, ⟨tb1_in (i := 11) rfl, rfl⟩, ⟨by decide, by decide⟩, by decide +kernel, rfl, by decide⟩
theorem v_Generaliser_newVariable : gd (.instanceMethod (my M_Generaliser_newVariable)) := ⟨tb4_in (i := 72) rfl, rfl⟩
theorem s_Generaliser_newVariable : gd (.selects "SuperDriver$Generaliser" (my M_Generaliser_newVariable) (my M_Generaliser_newVariable)) := ⟨pv_in (i := 9) rfl, rfl⟩
theorem k_Generaliser_takeApart : LK M_Generaliser_takeApart 1 := ⟨⟨tb4_in (i := 67) rfl, rfl⟩, ⟨tb1_in (i := 11) rfl, rfl⟩, ⟨by decide, by decide⟩, by decide +kernel, rfl, by decide⟩
theorem v_Generaliser_takeApart : gd (.instanceMethod (my M_Generaliser_takeApart)) := ⟨tb4_in (i := 66) rfl, rfl⟩
theorem s_Generaliser_takeApart : gd (.selects "SuperDriver$Generaliser" (my M_Generaliser_takeApart) (my M_Generaliser_takeApart)) := ⟨pv_in (i := 8) rfl, rfl⟩
theorem k_Generaliser_takeCommon : LK M_Generaliser_takeCommon 2 := ⟨⟨tb4_in (i := 89) rfl, rfl⟩, ⟨tb1_in (i := 11) rfl, rfl⟩, ⟨by decide, by decide⟩, by decide +kernel, rfl, by decide⟩
theorem v_Generaliser_takeCommon : gd (.instanceMethod (my M_Generaliser_takeCommon)) := ⟨tb4_in (i := 88) rfl, rfl⟩
theorem s_Generaliser_takeCommon : gd (.selects "SuperDriver$Generaliser" (my M_Generaliser_takeCommon) (my M_Generaliser_takeCommon)) := ⟨pv_in (i := 11) rfl, rfl⟩
theorem k_Node_init : LK M_Node_init 1 := ⟨⟨tb1_in (i := 138) rfl, rfl⟩, ⟨tb1_in (i := 9) rfl, rfl⟩, ⟨by decide, by decide⟩, by decide +kernel, rfl, by decide⟩
theorem v_Node_init : gd (.instanceMethod (my M_Node_init)) := ⟨tb1_in (i := 137) rfl, rfl⟩
theorem k_Node_become : LK M_Node_become 2 := ⟨⟨tb3_in (i := 187) rfl, rfl⟩, ⟨tb1_in (i := 9) rfl, rfl⟩, ⟨by decide, by decide⟩, by decide +kernel, rfl, by decide⟩
theorem v_Node_become : gd (.instanceMethod (my M_Node_become)) := ⟨tb3_in (i := 185) rfl, rfl⟩
theorem s_Node_become : gd (.selects "SuperDriver$Node" (my M_Node_become) (my M_Node_become)) := ⟨tb3_in (i := 186) rfl, rfl⟩
theorem k_Node_dropBelow : LK M_Node_dropBelow 0 := ⟨⟨tb3_in (i := 183) rfl, rfl⟩, ⟨tb1_in (i := 9) rfl, rfl⟩, ⟨by decide, by decide⟩, by decide +kernel, rfl, by decide⟩
theorem v_Node_dropBelow : gd (.instanceMethod (my M_Node_dropBelow)) := ⟨tb3_in (i := 181) rfl, rfl⟩
theorem s_Node_dropBelow : gd (.selects "SuperDriver$Node" (my M_Node_dropBelow) (my M_Node_dropBelow)) := ⟨tb3_in (i := 182) rfl, rfl⟩
theorem k_Node_fold : LK M_Node_fold 1 := ⟨⟨tb4_in (i := 57) rfl, rfl⟩, ⟨tb1_in (i := 9) rfl, rfl⟩, ⟨by decide, by decide⟩, by decide +kernel, rfl, by decide⟩
theorem v_Node_fold : gd (.instanceMethod (my M_Node_fold)) := ⟨tb4_in (i := 55) rfl, rfl⟩
theorem s_Node_fold : gd (.selects "SuperDriver$Node" (my M_Node_fold) (my M_Node_fold)) := ⟨tb4_in (i := 56) rfl, rfl⟩
theorem k_Node_isBelow : LK M_Node_isBelow 1 := ⟨⟨tb4_in (i := 107) rfl, rfl⟩, ⟨tb1_in (i := 9) rfl, rfl⟩, ⟨by decide, by decide⟩, by decide +kernel, rfl, by decide⟩
theorem v_Node_isBelow : gd (.instanceMethod (my M_Node_isBelow)) := ⟨tb4_in (i := 105) rfl, rfl⟩
theorem s_Node_isBelow : gd (.selects "SuperDriver$Node" (my M_Node_isBelow) (my M_Node_isBelow)) := ⟨tb4_in (i := 106) rfl, rfl⟩
theorem k_Node_open : LK M_Node_open 4 := ⟨⟨tb3_in (i := 177) rfl, rfl⟩, ⟨tb1_in (i := 9) rfl, rfl⟩, ⟨by decide, by decide⟩, by decide +kernel, rfl, by decide⟩
theorem v_Node_open : gd (.instanceMethod (my M_Node_open)) := ⟨tb3_in (i := 175) rfl, rfl⟩
theorem s_Node_open : gd (.selects "SuperDriver$Node" (my M_Node_open) (my M_Node_open)) := ⟨tb3_in (i := 176) rfl, rfl⟩
theorem k_Node_put : LK M_Node_put 1 := ⟨⟨tb3_in (i := 191) rfl, rfl⟩, ⟨tb1_in (i := 9) rfl, rfl⟩, ⟨by decide, by decide⟩, by decide +kernel, rfl, by decide⟩
theorem v_Node_put : gd (.instanceMethod (my M_Node_put)) := ⟨tb3_in (i := 189) rfl, rfl⟩
theorem s_Node_put : gd (.selects "SuperDriver$Node" (my M_Node_put) (my M_Node_put)) := ⟨tb3_in (i := 190) rfl, rfl⟩
theorem k_Program_init : LK M_Program_init 2 := ⟨⟨tb1_in (i := 107) rfl, rfl⟩, ⟨tb1_in (i := 6) rfl, rfl⟩, ⟨by decide, by decide⟩, by decide +kernel, rfl, by decide⟩
theorem v_Program_init : gd (.instanceMethod (my M_Program_init)) := ⟨tb1_in (i := 106) rfl, rfl⟩
theorem k_Program_constructorAskedFor : LK M_Program_constructorAskedFor 2 := ⟨⟨tb3_in (i := 231) rfl, rfl⟩, ⟨tb1_in (i := 6) rfl, rfl⟩, ⟨by decide, by decide⟩, by decide +kernel, rfl, by decide⟩
theorem v_Program_constructorAskedFor : gd (.instanceMethod (my M_Program_constructorAskedFor)) := ⟨tb3_in (i := 230) rfl, rfl⟩
theorem k_Program_unfold : LK M_Program_unfold 3 := ⟨⟨tb4_in (i := 119) rfl, rfl⟩, ⟨tb1_in (i := 6) rfl, rfl⟩, ⟨by decide, by decide⟩, by decide +kernel, rfl, by decide⟩
theorem v_Program_unfold : gd (.instanceMethod (my M_Program_unfold)) := ⟨tb4_in (i := 115) rfl, rfl⟩
theorem s4_Program_unfold : gd (.selects "SuperDriver$SourceProgram" (my M_Program_unfold) (my M_Program_unfold)) := ⟨tb4_in (i := 118) rfl, rfl⟩
theorem s9_Program_unfold : gd (.selects "SuperDriver$ResidualProgram" (my M_Program_unfold) (my M_Program_unfold)) := ⟨tb4_in (i := 117) rfl, rfl⟩
theorem k_Program_unfolds : LK M_Program_unfolds 2 := ⟨⟨tb3_in (i := 227) rfl, rfl⟩, ⟨tb1_in (i := 6) rfl, rfl⟩, ⟨by decide, by decide⟩, by decide +kernel, rfl, by decide⟩
theorem v_Program_unfolds : gd (.instanceMethod (my M_Program_unfolds)) := ⟨tb3_in (i := 223) rfl, rfl⟩
theorem s4_Program_unfolds : gd (.selects "SuperDriver$SourceProgram" (my M_Program_unfolds) (my M_Program_unfolds)) := ⟨tb3_in (i := 226) rfl, rfl⟩
theorem s9_Program_unfolds : gd (.selects "SuperDriver$ResidualProgram" (my M_Program_unfolds) (my M_Program_unfolds)) := ⟨tb3_in (i := 225) rfl, rfl⟩
theorem k_ResidualProgram_init : LK M_ResidualProgram_init 3 := ⟨⟨tb2_in (i := 52) rfl, rfl⟩, ⟨tb1_in (i := 12) rfl, rfl⟩, ⟨by decide, by decide⟩, by decide +kernel, rfl, by decide⟩
theorem v_ResidualProgram_init : gd (.instanceMethod (my M_ResidualProgram_init)) := ⟨tb2_in (i := 51) rfl, rfl⟩
theorem k_ResidualProgram_addAllBelow : LK M_ResidualProgram_addAllBelow 1 := ⟨⟨tb4_in (i := 197) rfl, rfl⟩, ⟨tb1_in (i := 12) rfl, rfl⟩, ⟨by decide, by decide⟩, by decide +kernel, rfl, by decide⟩
theorem z_ResidualProgram_addAllBelow : gd (.static (my M_ResidualProgram_addAllBelow)) := ⟨tb4_in (i := 196) rfl, rfl⟩
theorem k_ResidualProgram_bodyOf : LK M_ResidualProgram_bodyOf 2 := ⟨⟨tb4_in (i := 0) rfl, rfl⟩, ⟨tb1_in (i := 12) rfl, rfl⟩, ⟨by decide, by decide⟩, by decide +kernel, rfl, by decide⟩
theorem v_ResidualProgram_bodyOf : gd (.instanceMethod (my M_ResidualProgram_bodyOf)) := ⟨tb3_in (i := 239) rfl, rfl⟩
theorem k_ResidualProgram_clauseBelow : LK M_ResidualProgram_clauseBelow 2 := ⟨⟨tb4_in (i := 4) rfl, rfl⟩, ⟨tb1_in (i := 12) rfl, rfl⟩, ⟨by decide, by decide⟩, by decide +kernel, rfl, by decide⟩
theorem z_ResidualProgram_clauseBelow : gd (.static (my M_ResidualProgram_clauseBelow)) := ⟨tb4_in (i := 3) rfl, rfl⟩
theorem k_ResidualProgram_markFunctions : LK M_ResidualProgram_markFunctions 0 := ⟨⟨tb4_in (i := 179) rfl, rfl⟩, ⟨tb1_in (i := 12) rfl, rfl⟩, ⟨by decide, by decide⟩, by decide +kernel, rfl, by decide⟩
theorem v_ResidualProgram_markFunctions : gd (.instanceMethod (my M_ResidualProgram_markFunctions)) := ⟨tb4_in (i := 178) rfl, rfl⟩
theorem s_ResidualProgram_markFunctions : gd (.selects "SuperDriver$ResidualProgram" (my M_ResidualProgram_markFunctions) (my M_ResidualProgram_markFunctions)) := ⟨pv_in (i := 16) rfl, rfl⟩
theorem k_ResidualProgram_start : LK M_ResidualProgram_start 0 := ⟨⟨tb4_in (i := 237) rfl, rfl⟩, ⟨tb1_in (i := 12) rfl, rfl⟩, ⟨by decide, by decide⟩, by decide +kernel, rfl, by decide⟩
theorem v_ResidualProgram_start : gd (.instanceMethod (my M_ResidualProgram_start)) := ⟨tb4_in (i := 235) rfl, rfl⟩
theorem s_ResidualProgram_start : gd (.selects "SuperDriver$ResidualProgram" (my M_ResidualProgram_start) (my M_ResidualProgram_start)) := ⟨tb4_in (i := 236) rfl, rfl⟩
theorem k_ResidualProgram_variableOf : LK M_ResidualProgram_variableOf 3 := ⟨⟨tb4_in (i := 132) rfl, rfl⟩, ⟨tb1_in (i := 12) rfl, rfl⟩, ⟨by decide, by decide⟩, by decide +kernel, rfl, by decide⟩
theorem v_ResidualProgram_variableOf : gd (.instanceMethod (my M_ResidualProgram_variableOf)) := ⟨tb4_in (i := 131) rfl, rfl⟩
theorem k_ResidualProgram_write : LK M_ResidualProgram_write 0 := ⟨⟨tb4_in (i := 175) rfl, rfl⟩, ⟨tb1_in (i := 12) rfl, rfl⟩, ⟨by decide, by decide⟩, by decide +kernel, rfl, by decide⟩
theorem v_ResidualProgram_write : gd (.instanceMethod (my M_ResidualProgram_write)) := ⟨tb4_in (i := 173) rfl, rfl⟩
theorem s_ResidualProgram_write : gd (.selects "SuperDriver$ResidualProgram" (my M_ResidualProgram_write) (my M_ResidualProgram_write)) := ⟨tb4_in (i := 174) rfl, rfl⟩
theorem k_ResidualProgram_writeFold : LK M_ResidualProgram_writeFold 1 := ⟨⟨tb4_in (i := 201) rfl, rfl⟩, ⟨tb1_in (i := 12) rfl, rfl⟩, ⟨by decide, by decide⟩, by decide +kernel, rfl, by decide⟩
theorem z_ResidualProgram_writeFold : gd (.static (my M_ResidualProgram_writeFold)) := ⟨tb4_in (i := 200) rfl, rfl⟩
theorem k_ResidualProgram_writeInline : LK M_ResidualProgram_writeInline 1 := ⟨⟨tb4_in (i := 193) rfl, rfl⟩, ⟨tb1_in (i := 12) rfl, rfl⟩, ⟨by decide, by decide⟩, by decide +kernel, rfl, by decide⟩
theorem v_ResidualProgram_writeInline : gd (.instanceMethod (my M_ResidualProgram_writeInline)) := ⟨tb4_in (i := 192) rfl, rfl⟩
theorem s_ResidualProgram_writeInline : gd (.selects "SuperDriver$ResidualProgram" (my M_ResidualProgram_writeInline) (my M_ResidualProgram_writeInline)) := ⟨pv_in (i := 18) rfl, rfl⟩
theorem k_ResidualProgram_writeLet : LK M_ResidualProgram_writeLet 1 := ⟨⟨tb4_in (i := 205) rfl, rfl⟩, ⟨tb1_in (i := 12) rfl, rfl⟩, ⟨by decide, by decide⟩, by decide +kernel, rfl, by decide⟩
theorem v_ResidualProgram_writeLet : gd (.instanceMethod (my M_ResidualProgram_writeLet)) := ⟨tb4_in (i := 204) rfl, rfl⟩
theorem s_ResidualProgram_writeLet : gd (.selects "SuperDriver$ResidualProgram" (my M_ResidualProgram_writeLet) (my M_ResidualProgram_writeLet)) := ⟨pv_in (i := 19) rfl, rfl⟩
theorem k_ResidualProgram_writeOwnCall : LK M_ResidualProgram_writeOwnCall 1 := ⟨⟨tb4_in (i := 184) rfl, rfl⟩, ⟨tb1_in (i := 12) rfl, rfl⟩, ⟨by decide, by decide⟩, by decide +kernel, rfl, by decide⟩
theorem v_ResidualProgram_writeOwnCall : gd (.instanceMethod (my M_ResidualProgram_writeOwnCall)) := ⟨tb4_in (i := 183) rfl, rfl⟩
theorem s_ResidualProgram_writeOwnCall : gd (.selects "SuperDriver$ResidualProgram" (my M_ResidualProgram_writeOwnCall) (my M_ResidualProgram_writeOwnCall)) := ⟨pv_in (i := 17) rfl, rfl⟩
theorem k_Row_init : LK M_Row_init 1 := ⟨⟨tb1_in (i := 34) rfl, rfl⟩, ⟨tb1_in (i := 2) rfl, rfl⟩, ⟨by decide, by decide⟩, by decide +kernel, rfl, by decide⟩
theorem v_Row_init : gd (.instanceMethod (my M_Row_init)) := ⟨tb1_in (i := 33) rfl, rfl⟩
theorem k_Row_add : LK M_Row_add 1 := ⟨⟨tb2_in (i := 132) rfl, rfl⟩, ⟨tb1_in (i := 2) rfl, rfl⟩, ⟨by decide, by decide⟩, by decide +kernel, rfl, by decide⟩
theorem v_Row_add : gd (.instanceMethod (my M_Row_add)) := ⟨tb2_in (i := 130) rfl, rfl⟩
theorem s_Row_add : gd (.selects "SuperDriver$Row" (my M_Row_add) (my M_Row_add)) := ⟨tb2_in (i := 131) rfl, rfl⟩
theorem k_Row_addRange : LK M_Row_addRange 3 := ⟨⟨tb2_in (i := 197) rfl, rfl⟩, ⟨tb1_in (i := 2) rfl, rfl⟩, ⟨by decide, by decide⟩, by decide +kernel, rfl, by decide⟩
theorem v_Row_addRange : gd (.instanceMethod (my M_Row_addRange)) := ⟨tb2_in (i := 195) rfl, rfl⟩
theorem s_Row_addRange : gd (.selects "SuperDriver$Row" (my M_Row_addRange) (my M_Row_addRange)) := ⟨tb2_in (i := 196) rfl, rfl⟩
theorem k_Row_at : LK M_Row_at 1 := ⟨⟨tb2_in (i := 177) rfl, rfl⟩, ⟨tb1_in (i := 2) rfl, rfl⟩, ⟨by decide, by decide⟩, by decide +kernel, rfl, by decide⟩
theorem v_Row_at : gd (.instanceMethod (my M_Row_at)) := ⟨tb2_in (i := 175) rfl, rfl⟩
theorem s_Row_at : gd (.selects "SuperDriver$Row" (my M_Row_at) (my M_Row_at)) := ⟨tb2_in (i := 176) rfl, rfl⟩
theorem k_Row_clear : LK M_Row_clear 0 := ⟨⟨tb2_in (i := 140) rfl, rfl⟩, ⟨tb1_in (i := 2) rfl, rfl⟩, ⟨by decide, by decide⟩, by decide +kernel, rfl, by decide⟩
theorem v_Row_clear : gd (.instanceMethod (my M_Row_clear)) := ⟨tb2_in (i := 138) rfl, rfl⟩
theorem s_Row_clear : gd (.selects "SuperDriver$Row" (my M_Row_clear) (my M_Row_clear)) := ⟨tb2_in (i := 139) rfl, rfl⟩
theorem k_Row_copy : LK M_Row_copy 1 := ⟨⟨tb2_in (i := 192) rfl, rfl⟩, ⟨tb1_in (i := 2) rfl, rfl⟩, ⟨by decide, by decide⟩, by decide +kernel, rfl, by decide⟩
theorem v_Row_copy : gd (.instanceMethod (my M_Row_copy)) := ⟨tb2_in (i := 190) rfl, rfl⟩
theorem s_Row_copy : gd (.selects "SuperDriver$Row" (my M_Row_copy) (my M_Row_copy)) := ⟨tb2_in (i := 191) rfl, rfl⟩
theorem k_Row_indexOf : LK M_Row_indexOf 1 := ⟨⟨tb4_in (i := 26) rfl, rfl⟩, ⟨tb1_in (i := 2) rfl, rfl⟩, ⟨by decide, by decide⟩, by decide +kernel, rfl, by decide⟩
theorem v_Row_indexOf : gd (.instanceMethod (my M_Row_indexOf)) := ⟨tb4_in (i := 24) rfl, rfl⟩
theorem s_Row_indexOf : gd (.selects "SuperDriver$Row" (my M_Row_indexOf) (my M_Row_indexOf)) := ⟨tb4_in (i := 25) rfl, rfl⟩
theorem k_Row_isEmpty : LK M_Row_isEmpty 0 := ⟨⟨tb3_in (i := 158) rfl, rfl⟩, ⟨tb1_in (i := 2) rfl, rfl⟩, ⟨by decide, by decide⟩, by decide +kernel, rfl, by decide⟩
theorem v_Row_isEmpty : gd (.instanceMethod (my M_Row_isEmpty)) := ⟨tb3_in (i := 156) rfl, rfl⟩
theorem s_Row_isEmpty : gd (.selects "SuperDriver$Row" (my M_Row_isEmpty) (my M_Row_isEmpty)) := ⟨tb3_in (i := 157) rfl, rfl⟩
theorem k_Row_isRenamingOf : LK M_Row_isRenamingOf 1 := ⟨⟨tb4_in (i := 20) rfl, rfl⟩, ⟨tb1_in (i := 2) rfl, rfl⟩, ⟨by decide, by decide⟩, by decide +kernel, rfl, by decide⟩
theorem v_Row_isRenamingOf : gd (.instanceMethod (my M_Row_isRenamingOf)) := ⟨tb4_in (i := 18) rfl, rfl⟩
theorem s_Row_isRenamingOf : gd (.selects "SuperDriver$Row" (my M_Row_isRenamingOf) (my M_Row_isRenamingOf)) := ⟨tb4_in (i := 19) rfl, rfl⟩
theorem k_Row_isTooLong : LK M_Row_isTooLong 0 := ⟨⟨tb3_in (i := 173) rfl, rfl⟩, ⟨tb1_in (i := 2) rfl, rfl⟩, ⟨by decide, by decide⟩, by decide +kernel, rfl, by decide⟩
theorem v_Row_isTooLong : gd (.instanceMethod (my M_Row_isTooLong)) := ⟨tb3_in (i := 171) rfl, rfl⟩
theorem s_Row_isTooLong : gd (.selects "SuperDriver$Row" (my M_Row_isTooLong) (my M_Row_isTooLong)) := ⟨tb3_in (i := 172) rfl, rfl⟩
theorem k_Row_length : LK M_Row_length 0 := ⟨⟨tb2_in (i := 128) rfl, rfl⟩, ⟨tb1_in (i := 2) rfl, rfl⟩, ⟨by decide, by decide⟩, by decide +kernel, rfl, by decide⟩
theorem v_Row_length : gd (.instanceMethod (my M_Row_length)) := ⟨tb2_in (i := 126) rfl, rfl⟩
theorem s_Row_length : gd (.selects "SuperDriver$Row" (my M_Row_length) (my M_Row_length)) := ⟨tb2_in (i := 127) rfl, rfl⟩
theorem k_Row_repeats : LK M_Row_repeats 3 := ⟨⟨tb4_in (i := 97) rfl, rfl⟩, ⟨tb1_in (i := 2) rfl, rfl⟩, ⟨by decide, by decide⟩, by decide +kernel, rfl, by decide⟩
theorem v_Row_repeats : gd (.instanceMethod (my M_Row_repeats)) := ⟨tb4_in (i := 95) rfl, rfl⟩
theorem s_Row_repeats : gd (.selects "SuperDriver$Row" (my M_Row_repeats) (my M_Row_repeats)) := ⟨tb4_in (i := 96) rfl, rfl⟩
theorem k_Runner_init : LK M_Runner_init 2 := ⟨⟨tb2_in (i := 64) rfl, rfl⟩, ⟨tb1_in (i := 13) rfl, rfl⟩, ⟨by decide, by decide⟩, by decide +kernel, rfl, by decide⟩
theorem v_Runner_init : gd (.instanceMethod (my M_Runner_init)) := ⟨tb2_in (i := 63) rfl, rfl⟩
theorem k_Runner_begin : LK M_Runner_begin 2 := ⟨⟨tb5_in (i := 6) rfl, rfl⟩, ⟨tb1_in (i := 13) rfl, rfl⟩, ⟨by decide, by decide⟩, by decide +kernel, rfl, by decide⟩
theorem v_Runner_begin : gd (.instanceMethod (my M_Runner_begin)) := ⟨tb5_in (i := 4) rfl, rfl⟩
theorem s_Runner_begin : gd (.selects "SuperDriver$Runner" (my M_Runner_begin) (my M_Runner_begin)) := ⟨tb5_in (i := 5) rfl, rfl⟩
theorem k_Runner_clear : LK M_Runner_clear 0 := ⟨⟨tb2_in (i := 164) rfl, rfl⟩, ⟨tb1_in (i := 13) rfl, rfl⟩, ⟨by decide, by decide⟩, by decide +kernel, rfl, by decide⟩
theorem v_Runner_clear : gd (.instanceMethod (my M_Runner_clear)) := ⟨tb2_in (i := 162) rfl, rfl⟩
theorem s_Runner_clear : gd (.selects "SuperDriver$Runner" (my M_Runner_clear) (my M_Runner_clear)) := ⟨tb2_in (i := 163) rfl, rfl⟩
theorem k_Runner_constructorAt : LK M_Runner_constructorAt 1 := ⟨⟨tb2_in (i := 228) rfl, rfl⟩, ⟨tb1_in (i := 13) rfl, rfl⟩, ⟨by decide, by decide⟩, by decide +kernel, rfl, by decide⟩
theorem v_Runner_constructorAt : gd (.instanceMethod (my M_Runner_constructorAt)) := ⟨tb2_in (i := 226) rfl, rfl⟩
theorem s_Runner_constructorAt : gd (.selects "SuperDriver$Runner" (my M_Runner_constructorAt) (my M_Runner_constructorAt)) := ⟨tb2_in (i := 227) rfl, rfl⟩
theorem k_Runner_go : LK M_Runner_go 2 := ⟨⟨tb5_in (i := 14) rfl, rfl⟩, ⟨tb1_in (i := 13) rfl, rfl⟩, ⟨by decide, by decide⟩, by decide +kernel, rfl, by decide⟩
theorem v_Runner_go : gd (.instanceMethod (my M_Runner_go)) := ⟨tb5_in (i := 12) rfl, rfl⟩
theorem s_Runner_go : gd (.selects "SuperDriver$Runner" (my M_Runner_go) (my M_Runner_go)) := ⟨tb5_in (i := 13) rfl, rfl⟩
theorem k_Runner_judge : LK M_Runner_judge 3 := ⟨⟨tb5_in (i := 19) rfl, rfl⟩, ⟨tb1_in (i := 13) rfl, rfl⟩, ⟨by decide, by decide⟩, by decide +kernel, rfl, by decide⟩
theorem v_Runner_judge : gd (.instanceMethod (my M_Runner_judge)) := ⟨tb5_in (i := 18) rfl, rfl⟩
theorem s_Runner_judge : gd (.selects "SuperDriver$Runner" (my M_Runner_judge) (my M_Runner_judge)) := ⟨pv_in (i := 21) rfl, rfl⟩
theorem k_Runner_stepsMade : LK M_Runner_stepsMade 0 := ⟨⟨tb2_in (i := 239) rfl, rfl⟩, ⟨tb1_in (i := 13) rfl, rfl⟩, ⟨by decide, by decide⟩, by decide +kernel, rfl, by decide⟩
theorem v_Runner_stepsMade : gd (.instanceMethod (my M_Runner_stepsMade)) := ⟨tb2_in (i := 237) rfl, rfl⟩
theorem s_Runner_stepsMade : gd (.selects "SuperDriver$Runner" (my M_Runner_stepsMade) (my M_Runner_stepsMade)) := ⟨tb2_in (i := 238) rfl, rfl⟩
theorem k_Signs_init : LK M_Signs_init 0 := ⟨⟨tb1_in (i := 78) rfl, rfl⟩, ⟨tb1_in (i := 5) rfl, rfl⟩, ⟨by decide, by decide⟩, by decide +kernel, rfl, by decide⟩
theorem v_Signs_init : gd (.instanceMethod (my M_Signs_init)) := ⟨tb1_in (i := 77) rfl, rfl⟩
theorem k_Signs_behind : LK M_Signs_behind 2 := ⟨⟨tb3_in (i := 216) rfl, rfl⟩, ⟨tb1_in (i := 5) rfl, rfl⟩, ⟨by decide, by decide⟩, by decide +kernel, rfl, by decide⟩
theorem v_Signs_behind : gd (.instanceMethod (my M_Signs_behind)) := ⟨tb3_in (i := 214) rfl, rfl⟩
theorem s_Signs_behind : gd (.selects "SuperDriver$Signs" (my M_Signs_behind) (my M_Signs_behind)) := ⟨tb3_in (i := 215) rfl, rfl⟩
theorem k_Signs_couples : LK M_Signs_couples 4 := ⟨⟨tb4_in (i := 48) rfl, rfl⟩, ⟨tb1_in (i := 5) rfl, rfl⟩, ⟨by decide, by decide⟩, by decide +kernel, rfl, by decide⟩
theorem v_Signs_couples : gd (.instanceMethod (my M_Signs_couples)) := ⟨tb4_in (i := 47) rfl, rfl⟩
theorem s_Signs_couples : gd (.selects "SuperDriver$Signs" (my M_Signs_couples) (my M_Signs_couples)) := ⟨pv_in (i := 6) rfl, rfl⟩
theorem k_Signs_embeddedInParts : LK M_Signs_embeddedInParts 2 := ⟨⟨tb4_in (i := 44) rfl, rfl⟩, ⟨tb1_in (i := 5) rfl, rfl⟩, ⟨by decide, by decide⟩, by decide +kernel, rfl, by decide⟩
theorem v_Signs_embeddedInParts : gd (.instanceMethod (my M_Signs_embeddedInParts)) := ⟨tb4_in (i := 43) rfl, rfl⟩
theorem s_Signs_embeddedInParts : gd (.selects "SuperDriver$Signs" (my M_Signs_embeddedInParts) (my M_Signs_embeddedInParts)) := ⟨pv_in (i := 5) rfl, rfl⟩
theorem k_Signs_findEnds : LK M_Signs_findEnds 2 := ⟨⟨tb4_in (i := 39) rfl, rfl⟩, ⟨tb1_in (i := 5) rfl, rfl⟩, ⟨by decide, by decide⟩, by decide +kernel, rfl, by decide⟩
theorem v_Signs_findEnds : gd (.instanceMethod (my M_Signs_findEnds)) := ⟨tb4_in (i := 38) rfl, rfl⟩
theorem s_Signs_findEnds : gd (.selects "SuperDriver$Signs" (my M_Signs_findEnds) (my M_Signs_findEnds)) := ⟨pv_in (i := 4) rfl, rfl⟩
theorem k_Signs_isCased : LK M_Signs_isCased 1 := ⟨⟨tb3_in (i := 117) rfl, rfl⟩, ⟨tb1_in (i := 5) rfl, rfl⟩, ⟨by decide, by decide⟩, by decide +kernel, rfl, by decide⟩
theorem v_Signs_isCased : gd (.instanceMethod (my M_Signs_isCased)) := ⟨tb3_in (i := 115) rfl, rfl⟩
theorem s_Signs_isCased : gd (.selects "SuperDriver$Signs" (my M_Signs_isCased) (my M_Signs_isCased)) := ⟨tb3_in (i := 116) rfl, rfl⟩
theorem k_Signs_isEmbedded : LK M_Signs_isEmbedded 2 := ⟨⟨tb4_in (i := 34) rfl, rfl⟩, ⟨tb1_in (i := 5) rfl, rfl⟩, ⟨by decide, by decide⟩, by decide +kernel, rfl, by decide⟩
theorem v_Signs_isEmbedded : gd (.instanceMethod (my M_Signs_isEmbedded)) := ⟨tb4_in (i := 32) rfl, rfl⟩
theorem s_Signs_isEmbedded : gd (.selects "SuperDriver$Signs" (my M_Signs_isEmbedded) (my M_Signs_isEmbedded)) := ⟨tb4_in (i := 33) rfl, rfl⟩
theorem k_Signs_isMarked : LK M_Signs_isMarked 2 := ⟨⟨tb4_in (i := 53) rfl, rfl⟩, ⟨tb1_in (i := 5) rfl, rfl⟩, ⟨by decide, by decide⟩, by decide +kernel, rfl, by decide⟩
theorem v_Signs_isMarked : gd (.instanceMethod (my M_Signs_isMarked)) := ⟨tb4_in (i := 52) rfl, rfl⟩
theorem s_Signs_isMarked : gd (.selects "SuperDriver$Signs" (my M_Signs_isMarked) (my M_Signs_isMarked)) := ⟨pv_in (i := 7) rfl, rfl⟩
theorem k_Signs_isTerm : LK M_Signs_isTerm 1 := ⟨⟨tb2_in (i := 184) rfl, rfl⟩, ⟨tb1_in (i := 5) rfl, rfl⟩, ⟨by decide, by decide⟩, by decide +kernel, rfl, by decide⟩
theorem v_Signs_isTerm : gd (.instanceMethod (my M_Signs_isTerm)) := ⟨tb2_in (i := 182) rfl, rfl⟩
theorem s_Signs_isTerm : gd (.selects "SuperDriver$Signs" (my M_Signs_isTerm) (my M_Signs_isTerm)) := ⟨tb2_in (i := 183) rfl, rfl⟩
theorem k_Signs_isValue : LK M_Signs_isValue 1 := ⟨⟨tb2_in (i := 172) rfl, rfl⟩, ⟨tb1_in (i := 5) rfl, rfl⟩, ⟨by decide, by decide⟩, by decide +kernel, rfl, by decide⟩
theorem v_Signs_isValue : gd (.instanceMethod (my M_Signs_isValue)) := ⟨tb2_in (i := 170) rfl, rfl⟩
theorem s_Signs_isValue : gd (.selects "SuperDriver$Signs" (my M_Signs_isValue) (my M_Signs_isValue)) := ⟨tb2_in (i := 171) rfl, rfl⟩
theorem k_Signs_nextCall : LK M_Signs_nextCall 1 := ⟨⟨tb3_in (i := 220) rfl, rfl⟩, ⟨tb1_in (i := 5) rfl, rfl⟩, ⟨by decide, by decide⟩, by decide +kernel, rfl, by decide⟩
theorem v_Signs_nextCall : gd (.instanceMethod (my M_Signs_nextCall)) := ⟨tb3_in (i := 218) rfl, rfl⟩
theorem s_Signs_nextCall : gd (.selects "SuperDriver$Signs" (my M_Signs_nextCall) (my M_Signs_nextCall)) := ⟨tb3_in (i := 219) rfl, rfl⟩
theorem k_Signs_partsOf : LK M_Signs_partsOf 1 := ⟨⟨tb2_in (i := 188) rfl, rfl⟩, ⟨tb1_in (i := 5) rfl, rfl⟩, ⟨by decide, by decide⟩, by decide +kernel, rfl, by decide⟩
theorem v_Signs_partsOf : gd (.instanceMethod (my M_Signs_partsOf)) := ⟨tb2_in (i := 186) rfl, rfl⟩
theorem s_Signs_partsOf : gd (.selects "SuperDriver$Signs" (my M_Signs_partsOf) (my M_Signs_partsOf)) := ⟨tb2_in (i := 187) rfl, rfl⟩
theorem k_Signs_shape : LK M_Signs_shape 3 := ⟨⟨tb2_in (i := 152) rfl, rfl⟩, ⟨tb1_in (i := 5) rfl, rfl⟩, ⟨by decide, by decide⟩, by decide +kernel, rfl, by decide⟩
theorem v_Signs_shape : gd (.instanceMethod (my M_Signs_shape)) := ⟨tb2_in (i := 150) rfl, rfl⟩
theorem s_Signs_shape : gd (.selects "SuperDriver$Signs" (my M_Signs_shape) (my M_Signs_shape)) := ⟨tb2_in (i := 151) rfl, rfl⟩
theorem k_SourceProgram_init : LK M_SourceProgram_init 2 := ⟨⟨tb1_in (i := 104) rfl, rfl⟩, ⟨tb1_in (i := 7) rfl, rfl⟩, ⟨by decide, by decide⟩, by decide +kernel, rfl, by decide⟩
theorem v_SourceProgram_init : gd (.instanceMethod (my M_SourceProgram_init)) := ⟨tb1_in (i := 103) rfl, rfl⟩
theorem k_SourceProgram_bodyOf : LK M_SourceProgram_bodyOf 2 := ⟨⟨tb4_in (i := 7) rfl, rfl⟩, ⟨tb1_in (i := 7) rfl, rfl⟩, ⟨by decide, by decide⟩, by decide +kernel, rfl, by decide⟩
theorem v_SourceProgram_bodyOf : gd (.instanceMethod (my M_SourceProgram_bodyOf)) := ⟨tb4_in (i := 6) rfl, rfl⟩
theorem k_SourceProgram_clear : LK M_SourceProgram_clear 0 := ⟨⟨tb2_in (i := 148) rfl, rfl⟩, ⟨tb1_in (i := 7) rfl, rfl⟩, ⟨by decide, by decide⟩, by decide +kernel, rfl, by decide⟩
theorem v_SourceProgram_clear : gd (.instanceMethod (my M_SourceProgram_clear)) := ⟨tb2_in (i := 146) rfl, rfl⟩
theorem s_SourceProgram_clear : gd (.selects "SuperDriver$SourceProgram" (my M_SourceProgram_clear) (my M_SourceProgram_clear)) := ⟨tb2_in (i := 147) rfl, rfl⟩
theorem k_SourceProgram_declare : LK M_SourceProgram_declare 3 := ⟨⟨tb3_in (i := 101) rfl, rfl⟩, ⟨tb1_in (i := 7) rfl, rfl⟩, ⟨by decide, by decide⟩, by decide +kernel, rfl, by decide⟩
theorem v_SourceProgram_declare : gd (.instanceMethod (my M_SourceProgram_declare)) := ⟨tb3_in (i := 99) rfl, rfl⟩
theorem s_SourceProgram_declare : gd (.selects "SuperDriver$SourceProgram" (my M_SourceProgram_declare) (my M_SourceProgram_declare)) := ⟨tb3_in (i := 100) rfl, rfl⟩
theorem k_SourceProgram_define : LK M_SourceProgram_define 3 := ⟨⟨tb3_in (i := 132) rfl, rfl⟩, ⟨tb1_in (i := 7) rfl, rfl⟩, ⟨by decide, by decide⟩, by decide +kernel, rfl, by decide⟩
theorem v_SourceProgram_define : gd (.instanceMethod (my M_SourceProgram_define)) := ⟨tb3_in (i := 130) rfl, rfl⟩
theorem s_SourceProgram_define : gd (.selects "SuperDriver$SourceProgram" (my M_SourceProgram_define) (my M_SourceProgram_define)) := ⟨tb3_in (i := 131) rfl, rfl⟩
theorem k_SourceProgram_isDeclared : LK M_SourceProgram_isDeclared 1 := ⟨⟨tb3_in (i := 80) rfl, rfl⟩, ⟨tb1_in (i := 7) rfl, rfl⟩, ⟨by decide, by decide⟩, by decide +kernel, rfl, by decide⟩
theorem v_SourceProgram_isDeclared : gd (.instanceMethod (my M_SourceProgram_isDeclared)) := ⟨tb3_in (i := 78) rfl, rfl⟩
theorem s_SourceProgram_isDeclared : gd (.selects "SuperDriver$SourceProgram" (my M_SourceProgram_isDeclared) (my M_SourceProgram_isDeclared)) := ⟨tb3_in (i := 79) rfl, rfl⟩
theorem k_SourceProgram_mayHave : LK M_SourceProgram_mayHave 3 := ⟨⟨tb3_in (i := 113) rfl, rfl⟩, ⟨tb1_in (i := 7) rfl, rfl⟩, ⟨by decide, by decide⟩, by decide +kernel, rfl, by decide⟩
theorem v_SourceProgram_mayHave : gd (.instanceMethod (my M_SourceProgram_mayHave)) := ⟨tb3_in (i := 111) rfl, rfl⟩
theorem s_SourceProgram_mayHave : gd (.selects "SuperDriver$SourceProgram" (my M_SourceProgram_mayHave) (my M_SourceProgram_mayHave)) := ⟨tb3_in (i := 112) rfl, rfl⟩
theorem k_SourceProgram_placeOf : LK M_SourceProgram_placeOf 2 := ⟨⟨tb3_in (i := 136) rfl, rfl⟩, ⟨tb1_in (i := 7) rfl, rfl⟩, ⟨by decide, by decide⟩, by decide +kernel, rfl, by decide⟩
theorem v_SourceProgram_placeOf : gd (.instanceMethod (my M_SourceProgram_placeOf)) := ⟨tb3_in (i := 135) rfl, rfl⟩
theorem s_SourceProgram_placeOf : gd (.selects "SuperDriver$SourceProgram" (my M_SourceProgram_placeOf) (my M_SourceProgram_placeOf)) := ⟨pv_in (i := 1) rfl, rfl⟩
theorem k_SourceProgram_variableOf : LK M_SourceProgram_variableOf 3 := ⟨⟨tb4_in (i := 137) rfl, rfl⟩, ⟨tb1_in (i := 7) rfl, rfl⟩, ⟨by decide, by decide⟩, by decide +kernel, rfl, by decide⟩
theorem v_SourceProgram_variableOf : gd (.instanceMethod (my M_SourceProgram_variableOf)) := ⟨tb4_in (i := 136) rfl, rfl⟩
theorem k_Substitution_init : LK M_Substitution_init 0 := ⟨⟨tb1_in (i := 55) rfl, rfl⟩, ⟨tb1_in (i := 4) rfl, rfl⟩, ⟨by decide, by decide⟩, by decide +kernel, rfl, by decide⟩
theorem v_Substitution_init : gd (.instanceMethod (my M_Substitution_init)) := ⟨tb1_in (i := 54) rfl, rfl⟩
theorem k_Substitution_apply : LK M_Substitution_apply 2 := ⟨⟨tb4_in (i := 148) rfl, rfl⟩, ⟨tb1_in (i := 4) rfl, rfl⟩, ⟨by decide, by decide⟩, by decide +kernel, rfl, by decide⟩
theorem v_Substitution_apply : gd (.instanceMethod (my M_Substitution_apply)) := ⟨tb4_in (i := 146) rfl, rfl⟩
theorem s_Substitution_apply : gd (.selects "SuperDriver$Substitution" (my M_Substitution_apply) (my M_Substitution_apply)) := ⟨tb4_in (i := 147) rfl, rfl⟩
theorem k_Substitution_begin : LK M_Substitution_begin 0 := ⟨⟨tb4_in (i := 125) rfl, rfl⟩, ⟨tb1_in (i := 4) rfl, rfl⟩, ⟨by decide, by decide⟩, by decide +kernel, rfl, by decide⟩
theorem v_Substitution_begin : gd (.instanceMethod (my M_Substitution_begin)) := ⟨tb4_in (i := 123) rfl, rfl⟩
theorem s_Substitution_begin : gd (.selects "SuperDriver$Substitution" (my M_Substitution_begin) (my M_Substitution_begin)) := ⟨tb4_in (i := 124) rfl, rfl⟩
theorem k_Substitution_bind : LK M_Substitution_bind 4 := ⟨⟨tb4_in (i := 141) rfl, rfl⟩, ⟨tb1_in (i := 4) rfl, rfl⟩, ⟨by decide, by decide⟩, by decide +kernel, rfl, by decide⟩
theorem v_Substitution_bind : gd (.instanceMethod (my M_Substitution_bind)) := ⟨tb4_in (i := 139) rfl, rfl⟩
theorem s_Substitution_bind : gd (.selects "SuperDriver$Substitution" (my M_Substitution_bind) (my M_Substitution_bind)) := ⟨tb4_in (i := 140) rfl, rfl⟩
theorem k_Tree_init : LK M_Tree_init 0 := ⟨⟨tb1_in (i := 131) rfl, rfl⟩, ⟨tb1_in (i := 8) rfl, rfl⟩, ⟨by decide, by decide⟩, by decide +kernel, rfl, by decide⟩
theorem v_Tree_init : gd (.instanceMethod (my M_Tree_init)) := ⟨tb1_in (i := 130) rfl, rfl⟩
theorem k_Tree_add : LK M_Tree_add 4 := ⟨⟨tb3_in (i := 169) rfl, rfl⟩, ⟨tb1_in (i := 8) rfl, rfl⟩, ⟨by decide, by decide⟩, by decide +kernel, rfl, by decide⟩
theorem v_Tree_add : gd (.instanceMethod (my M_Tree_add)) := ⟨tb3_in (i := 167) rfl, rfl⟩
theorem s_Tree_add : gd (.selects "SuperDriver$Tree" (my M_Tree_add) (my M_Tree_add)) := ⟨tb3_in (i := 168) rfl, rfl⟩
theorem k_Tree_clear : LK M_Tree_clear 0 := ⟨⟨tb2_in (i := 160) rfl, rfl⟩, ⟨tb1_in (i := 8) rfl, rfl⟩, ⟨by decide, by decide⟩, by decide +kernel, rfl, by decide⟩
theorem v_Tree_clear : gd (.instanceMethod (my M_Tree_clear)) := ⟨tb2_in (i := 158) rfl, rfl⟩
theorem s_Tree_clear : gd (.selects "SuperDriver$Tree" (my M_Tree_clear) (my M_Tree_clear)) := ⟨tb2_in (i := 159) rfl, rfl⟩
theorem k_Tree_count : LK M_Tree_count 0 := ⟨⟨tb3_in (i := 195) rfl, rfl⟩, ⟨tb1_in (i := 8) rfl, rfl⟩, ⟨by decide, by decide⟩, by decide +kernel, rfl, by decide⟩
theorem v_Tree_count : gd (.instanceMethod (my M_Tree_count)) := ⟨tb3_in (i := 193) rfl, rfl⟩
theorem s_Tree_count : gd (.selects "SuperDriver$Tree" (my M_Tree_count) (my M_Tree_count)) := ⟨tb3_in (i := 194) rfl, rfl⟩
theorem k_Tree_get : LK M_Tree_get 1 := ⟨⟨tb2_in (i := 211) rfl, rfl⟩, ⟨tb1_in (i := 8) rfl, rfl⟩, ⟨by decide, by decide⟩, by decide +kernel, rfl, by decide⟩
theorem v_Tree_get : gd (.instanceMethod (my M_Tree_get)) := ⟨tb2_in (i := 209) rfl, rfl⟩
theorem s_Tree_get : gd (.selects "SuperDriver$Tree" (my M_Tree_get) (my M_Tree_get)) := ⟨tb2_in (i := 210) rfl, rfl⟩
theorem k_Tree_isTooGreat : LK M_Tree_isTooGreat 0 := ⟨⟨tb3_in (i := 204) rfl, rfl⟩, ⟨tb1_in (i := 8) rfl, rfl⟩, ⟨by decide, by decide⟩, by decide +kernel, rfl, by decide⟩
theorem v_Tree_isTooGreat : gd (.instanceMethod (my M_Tree_isTooGreat)) := ⟨tb3_in (i := 202) rfl, rfl⟩
theorem s_Tree_isTooGreat : gd (.selects "SuperDriver$Tree" (my M_Tree_isTooGreat) (my M_Tree_isTooGreat)) := ⟨tb3_in (i := 203) rfl, rfl⟩
theorem k_Tree_newVariable : LK M_Tree_newVariable 0 := ⟨⟨tb4_in (i := 77) rfl, rfl⟩, ⟨tb1_in (i := 8) rfl, rfl⟩, ⟨by decide, by decide⟩, by decide +kernel, rfl, by decide⟩
theorem v_Tree_newVariable : gd (.instanceMethod (my M_Tree_newVariable)) := ⟨tb4_in (i := 75) rfl, rfl⟩
theorem s_Tree_newVariable : gd (.selects "SuperDriver$Tree" (my M_Tree_newVariable) (my M_Tree_newVariable)) := ⟨tb4_in (i := 76) rfl, rfl⟩
theorem k_Tree_removeBelow : LK M_Tree_removeBelow 1 := ⟨⟨tb4_in (i := 102) rfl, rfl⟩, ⟨tb1_in (i := 8) rfl, rfl⟩, ⟨by decide, by decide⟩, by decide +kernel, rfl, by decide⟩
theorem v_Tree_removeBelow : gd (.instanceMethod (my M_Tree_removeBelow)) := ⟨tb4_in (i := 100) rfl, rfl⟩
theorem s_Tree_removeBelow : gd (.selects "SuperDriver$Tree" (my M_Tree_removeBelow) (my M_Tree_removeBelow)) := ⟨tb4_in (i := 101) rfl, rfl⟩
theorem k_Mo_init : LK M_Mo_init 0 := ⟨⟨tb5_in (i := 27) rfl, rfl⟩, ⟨tb1_in (i := 14) rfl, rfl⟩, ⟨by decide, by decide⟩, by decide +kernel, rfl, by decide⟩
theorem v_Mo_init : gd (.instanceMethod (my M_Mo_init)) := ⟨tb5_in (i := 26) rfl, rfl⟩
theorem k_Mo_add : LK M_Mo_add 4 := ⟨⟨tb5_in (i := 233) rfl, rfl⟩, ⟨tb1_in (i := 14) rfl, rfl⟩, ⟨by decide, by decide⟩, by decide +kernel, rfl, by decide⟩
theorem v_Mo_add : gd (.instanceMethod (my M_Mo_add)) := ⟨tb5_in (i := 232) rfl, rfl⟩
theorem s_Mo_add : gd (.selects "SuperDriverModel" (my M_Mo_add) (my M_Mo_add)) := ⟨pv_in (i := 26) rfl, rfl⟩
theorem k_Mo_alike : LK M_Mo_alike 5 := ⟨⟨tb6_in (i := 61) rfl, rfl⟩, ⟨tb1_in (i := 14) rfl, rfl⟩, ⟨by decide, by decide⟩, by decide +kernel, rfl, by decide⟩
theorem v_Mo_alike : gd (.instanceMethod (my M_Mo_alike)) := ⟨tb6_in (i := 60) rfl, rfl⟩
theorem s_Mo_alike : gd (.selects "SuperDriverModel" (my M_Mo_alike) (my M_Mo_alike)) := ⟨pv_in (i := 43) rfl, rfl⟩
theorem k_Mo_areParts : LK M_Mo_areParts 5 := ⟨⟨tb6_in (i := 37) rfl, rfl⟩, ⟨tb1_in (i := 14) rfl, rfl⟩, ⟨by decide, by decide⟩, by decide +kernel, rfl, by decide⟩
theorem v_Mo_areParts : gd (.instanceMethod (my M_Mo_areParts)) := ⟨tb6_in (i := 36) rfl, rfl⟩
theorem s_Mo_areParts : gd (.selects "SuperDriverModel" (my M_Mo_areParts) (my M_Mo_areParts)) := ⟨pv_in (i := 37) rfl, rfl⟩
theorem k_Mo_becomes : LK M_Mo_becomes 2 := ⟨⟨tb6_in (i := 1) rfl, rfl⟩, ⟨tb1_in (i := 14) rfl, rfl⟩, ⟨by decide, by decide⟩, by decide +kernel, rfl, by decide⟩
theorem v_Mo_becomes : gd (.instanceMethod (my M_Mo_becomes)) := ⟨tb6_in (i := 0) rfl, rfl⟩
theorem s_Mo_becomes : gd (.selects "SuperDriverModel" (my M_Mo_becomes) (my M_Mo_becomes)) := ⟨pv_in (i := 28) rfl, rfl⟩
theorem k_Mo_begin : LK M_Mo_begin 1 := ⟨⟨tb6_in (i := 141) rfl, rfl⟩, ⟨tb1_in (i := 14) rfl, rfl⟩, ⟨by decide, by decide⟩, by decide +kernel, rfl, by decide⟩
theorem v_Mo_begin : gd (.instanceMethod (my M_Mo_begin)) := ⟨tb6_in (i := 140) rfl, rfl⟩
theorem s_Mo_begin : gd (.selects "SuperDriverModel" (my M_Mo_begin) (my M_Mo_begin)) := ⟨pv_in (i := 59) rfl, rfl⟩
theorem k_Mo_bind : LK M_Mo_bind 2 := ⟨⟨tb6_in (i := 77) rfl, rfl⟩, ⟨tb1_in (i := 14) rfl, rfl⟩, ⟨by decide, by decide⟩, by decide +kernel, rfl, by decide⟩
theorem v_Mo_bind : gd (.instanceMethod (my M_Mo_bind)) := ⟨tb6_in (i := 76) rfl, rfl⟩
theorem s_Mo_bind : gd (.selects "SuperDriverModel" (my M_Mo_bind) (my M_Mo_bind)) := ⟨pv_in (i := 47) rfl, rfl⟩
theorem k_Mo_body : LK M_Mo_body 2 := ⟨⟨tb5_in (i := 202) rfl, rfl⟩, ⟨tb1_in (i := 14) rfl, rfl⟩, ⟨by decide, by decide⟩, by decide +kernel, rfl, by decide⟩
theorem v_Mo_body : gd (.instanceMethod (my M_Mo_body)) := ⟨tb5_in (i := 200) rfl, rfl⟩
theorem s_Mo_body : gd (.selects "SuperDriverModel" (my M_Mo_body) (my M_Mo_body)) := ⟨tb5_in (i := 201) rfl, rfl⟩
theorem k_Mo_bodyOf : LK M_Mo_bodyOf 1 := ⟨⟨tb6_in (i := 25) rfl, rfl⟩, ⟨tb1_in (i := 14) rfl, rfl⟩, ⟨by decide, by decide⟩, by decide +kernel, rfl, by decide⟩
theorem v_Mo_bodyOf : gd (.instanceMethod (my M_Mo_bodyOf)) := ⟨tb6_in (i := 24) rfl, rfl⟩
theorem s_Mo_bodyOf : gd (.selects "SuperDriverModel" (my M_Mo_bodyOf) (my M_Mo_bodyOf)) := ⟨pv_in (i := 34) rfl, rfl⟩
theorem k_Mo_build : LK M_Mo_build 1 := ⟨⟨tb6_in (i := 5) rfl, rfl⟩, ⟨tb1_in (i := 14) rfl, rfl⟩, ⟨by decide, by decide⟩, by decide +kernel, rfl, by decide⟩
theorem v_Mo_build : gd (.instanceMethod (my M_Mo_build)) := ⟨tb6_in (i := 4) rfl, rfl⟩
theorem s_Mo_build : gd (.selects "SuperDriverModel" (my M_Mo_build) (my M_Mo_build)) := ⟨pv_in (i := 29) rfl, rfl⟩
theorem k_Mo_builtOf : LK M_Mo_builtOf 1 := ⟨⟨tb5_in (i := 205) rfl, rfl⟩, ⟨tb1_in (i := 14) rfl, rfl⟩, ⟨by decide, by decide⟩, by decide +kernel, rfl, by decide⟩
theorem z_Mo_builtOf : gd (.static (my M_Mo_builtOf)) := ⟨tb5_in (i := 204) rfl, rfl⟩
theorem k_Mo_differ : LK M_Mo_differ 3 := ⟨⟨tb6_in (i := 57) rfl, rfl⟩, ⟨tb1_in (i := 14) rfl, rfl⟩, ⟨by decide, by decide⟩, by decide +kernel, rfl, by decide⟩
theorem v_Mo_differ : gd (.instanceMethod (my M_Mo_differ)) := ⟨tb6_in (i := 56) rfl, rfl⟩
theorem s_Mo_differ : gd (.selects "SuperDriverModel" (my M_Mo_differ) (my M_Mo_differ)) := ⟨pv_in (i := 42) rfl, rfl⟩
theorem k_Mo_drive : LK M_Mo_drive 0 := ⟨⟨tb5_in (i := 229) rfl, rfl⟩, ⟨tb1_in (i := 14) rfl, rfl⟩, ⟨by decide, by decide⟩, by decide +kernel, rfl, by decide⟩
theorem v_Mo_drive : gd (.instanceMethod (my M_Mo_drive)) := ⟨tb5_in (i := 227) rfl, rfl⟩
theorem s_Mo_drive : gd (.selects "SuperDriverModel" (my M_Mo_drive) (my M_Mo_drive)) := ⟨tb5_in (i := 228) rfl, rfl⟩
theorem k_Mo_end : LK M_Mo_end 2 := ⟨⟨tb6_in (i := 9) rfl, rfl⟩, ⟨tb1_in (i := 14) rfl, rfl⟩, ⟨by decide, by decide⟩, by decide +kernel, rfl, by decide⟩
theorem v_Mo_end : gd (.instanceMethod (my M_Mo_end)) := ⟨tb6_in (i := 8) rfl, rfl⟩
theorem s_Mo_end : gd (.selects "SuperDriverModel" (my M_Mo_end) (my M_Mo_end)) := ⟨pv_in (i := 30) rfl, rfl⟩
theorem k_Mo_findFunctions : LK M_Mo_findFunctions 0 := ⟨⟨tb6_in (i := 93) rfl, rfl⟩, ⟨tb1_in (i := 14) rfl, rfl⟩, ⟨by decide, by decide⟩, by decide +kernel, rfl, by decide⟩
theorem v_Mo_findFunctions : gd (.instanceMethod (my M_Mo_findFunctions)) := ⟨tb6_in (i := 92) rfl, rfl⟩
theorem s_Mo_findFunctions : gd (.selects "SuperDriverModel" (my M_Mo_findFunctions) (my M_Mo_findFunctions)) := ⟨pv_in (i := 51) rfl, rfl⟩
theorem k_Mo_forget : LK M_Mo_forget 0 := ⟨⟨tb5_in (i := 190) rfl, rfl⟩, ⟨tb1_in (i := 14) rfl, rfl⟩, ⟨by decide, by decide⟩, by decide +kernel, rfl, by decide⟩
theorem v_Mo_forget : gd (.instanceMethod (my M_Mo_forget)) := ⟨tb5_in (i := 188) rfl, rfl⟩
theorem s_Mo_forget : gd (.selects "SuperDriverModel" (my M_Mo_forget) (my M_Mo_forget)) := ⟨tb5_in (i := 189) rfl, rfl⟩
theorem k_Mo_function : LK M_Mo_function 3 := ⟨⟨tb5_in (i := 194) rfl, rfl⟩, ⟨tb1_in (i := 14) rfl, rfl⟩, ⟨by decide, by decide⟩, by decide +kernel, rfl, by decide⟩
theorem v_Mo_function : gd (.instanceMethod (my M_Mo_function)) := ⟨tb5_in (i := 192) rfl, rfl⟩
theorem s_Mo_function : gd (.selects "SuperDriverModel" (my M_Mo_function) (my M_Mo_function)) := ⟨tb5_in (i := 193) rfl, rfl⟩
theorem k_Mo_generalise : LK M_Mo_generalise 2 := ⟨⟨tb6_in (i := 49) rfl, rfl⟩, ⟨tb1_in (i := 14) rfl, rfl⟩, ⟨by decide, by decide⟩, by decide +kernel, rfl, by decide⟩
theorem v_Mo_generalise : gd (.instanceMethod (my M_Mo_generalise)) := ⟨tb6_in (i := 48) rfl, rfl⟩
theorem s_Mo_generalise : gd (.selects "SuperDriverModel" (my M_Mo_generalise) (my M_Mo_generalise)) := ⟨pv_in (i := 40) rfl, rfl⟩
theorem k_Mo_goBelow : LK M_Mo_goBelow 1 := ⟨⟨tb6_in (i := 65) rfl, rfl⟩, ⟨tb1_in (i := 14) rfl, rfl⟩, ⟨by decide, by decide⟩, by decide +kernel, rfl, by decide⟩
theorem v_Mo_goBelow : gd (.instanceMethod (my M_Mo_goBelow)) := ⟨tb6_in (i := 64) rfl, rfl⟩
theorem s_Mo_goBelow : gd (.selects "SuperDriverModel" (my M_Mo_goBelow) (my M_Mo_goBelow)) := ⟨pv_in (i := 44) rfl, rfl⟩
theorem k_Mo_goal : LK M_Mo_goal 0 := ⟨⟨tb5_in (i := 221) rfl, rfl⟩, ⟨tb1_in (i := 14) rfl, rfl⟩, ⟨by decide, by decide⟩, by decide +kernel, rfl, by decide⟩
theorem v_Mo_goal : gd (.instanceMethod (my M_Mo_goal)) := ⟨tb5_in (i := 219) rfl, rfl⟩
theorem s_Mo_goal : gd (.selects "SuperDriverModel" (my M_Mo_goal) (my M_Mo_goal)) := ⟨tb5_in (i := 220) rfl, rfl⟩
theorem k_Mo_hasInputs : LK M_Mo_hasInputs 0 := ⟨⟨tb6_in (i := 137) rfl, rfl⟩, ⟨tb1_in (i := 14) rfl, rfl⟩, ⟨by decide, by decide⟩, by decide +kernel, rfl, by decide⟩
theorem v_Mo_hasInputs : gd (.instanceMethod (my M_Mo_hasInputs)) := ⟨tb6_in (i := 136) rfl, rfl⟩
theorem s_Mo_hasInputs : gd (.selects "SuperDriverModel" (my M_Mo_hasInputs) (my M_Mo_hasInputs)) := ⟨pv_in (i := 58) rfl, rfl⟩
theorem k_Mo_hold : LK M_Mo_hold 2 := ⟨⟨tb6_in (i := 97) rfl, rfl⟩, ⟨tb1_in (i := 14) rfl, rfl⟩, ⟨by decide, by decide⟩, by decide +kernel, rfl, by decide⟩
theorem v_Mo_hold : gd (.instanceMethod (my M_Mo_hold)) := ⟨tb6_in (i := 96) rfl, rfl⟩
theorem s_Mo_hold : gd (.selects "SuperDriverModel" (my M_Mo_hold) (my M_Mo_hold)) := ⟨pv_in (i := 52) rfl, rfl⟩
theorem k_Mo_input : LK M_Mo_input 1 := ⟨⟨tb5_in (i := 225) rfl, rfl⟩, ⟨tb1_in (i := 14) rfl, rfl⟩, ⟨by decide, by decide⟩, by decide +kernel, rfl, by decide⟩
theorem v_Mo_input : gd (.instanceMethod (my M_Mo_input)) := ⟨tb5_in (i := 223) rfl, rfl⟩
theorem s_Mo_input : gd (.selects "SuperDriverModel" (my M_Mo_input) (my M_Mo_input)) := ⟨tb5_in (i := 224) rfl, rfl⟩
theorem k_Mo_isCased : LK M_Mo_isCased 1 := ⟨⟨tb6_in (i := 21) rfl, rfl⟩, ⟨tb1_in (i := 14) rfl, rfl⟩, ⟨by decide, by decide⟩, by decide +kernel, rfl, by decide⟩
theorem v_Mo_isCased : gd (.instanceMethod (my M_Mo_isCased)) := ⟨tb6_in (i := 20) rfl, rfl⟩
theorem s_Mo_isCased : gd (.selects "SuperDriverModel" (my M_Mo_isCased) (my M_Mo_isCased)) := ⟨pv_in (i := 33) rfl, rfl⟩
theorem k_Mo_isEmbedded : LK M_Mo_isEmbedded 2 := ⟨⟨tb6_in (i := 33) rfl, rfl⟩, ⟨tb1_in (i := 14) rfl, rfl⟩, ⟨by decide, by decide⟩, by decide +kernel, rfl, by decide⟩
theorem v_Mo_isEmbedded : gd (.instanceMethod (my M_Mo_isEmbedded)) := ⟨tb6_in (i := 32) rfl, rfl⟩
theorem s_Mo_isEmbedded : gd (.selects "SuperDriverModel" (my M_Mo_isEmbedded) (my M_Mo_isEmbedded)) := ⟨pv_in (i := 36) rfl, rfl⟩
theorem k_Mo_isNode : LK M_Mo_isNode 1 := ⟨⟨tb6_in (i := 121) rfl, rfl⟩, ⟨tb1_in (i := 14) rfl, rfl⟩, ⟨by decide, by decide⟩, by decide +kernel, rfl, by decide⟩
theorem v_Mo_isNode : gd (.instanceMethod (my M_Mo_isNode)) := ⟨tb6_in (i := 120) rfl, rfl⟩
theorem s_Mo_isNode : gd (.selects "SuperDriverModel" (my M_Mo_isNode) (my M_Mo_isNode)) := ⟨pv_in (i := 57) rfl, rfl⟩
theorem k_Mo_isRenaming : LK M_Mo_isRenaming 2 := ⟨⟨tb6_in (i := 41) rfl, rfl⟩, ⟨tb1_in (i := 14) rfl, rfl⟩, ⟨by decide, by decide⟩, by decide +kernel, rfl, by decide⟩
theorem v_Mo_isRenaming : gd (.instanceMethod (my M_Mo_isRenaming)) := ⟨tb6_in (i := 40) rfl, rfl⟩
theorem s_Mo_isRenaming : gd (.selects "SuperDriverModel" (my M_Mo_isRenaming) (my M_Mo_isRenaming)) := ⟨pv_in (i := 38) rfl, rfl⟩
theorem k_Mo_isTerm : LK M_Mo_isTerm 2 := ⟨⟨tb5_in (i := 209) rfl, rfl⟩, ⟨tb1_in (i := 14) rfl, rfl⟩, ⟨by decide, by decide⟩, by decide +kernel, rfl, by decide⟩
theorem v_Mo_isTerm : gd (.instanceMethod (my M_Mo_isTerm)) := ⟨tb5_in (i := 208) rfl, rfl⟩
theorem s_Mo_isTerm : gd (.selects "SuperDriverModel" (my M_Mo_isTerm) (my M_Mo_isTerm)) := ⟨pv_in (i := 23) rfl, rfl⟩
theorem k_Mo_let : LK M_Mo_let 3 := ⟨⟨tb6_in (i := 69) rfl, rfl⟩, ⟨tb1_in (i := 14) rfl, rfl⟩, ⟨by decide, by decide⟩, by decide +kernel, rfl, by decide⟩
theorem v_Mo_let : gd (.instanceMethod (my M_Mo_let)) := ⟨tb6_in (i := 68) rfl, rfl⟩
theorem s_Mo_let : gd (.selects "SuperDriverModel" (my M_Mo_let) (my M_Mo_let)) := ⟨pv_in (i := 45) rfl, rfl⟩
theorem k_Mo_load : LK M_Mo_load 1 := ⟨⟨tb6_in (i := 13) rfl, rfl⟩, ⟨tb1_in (i := 14) rfl, rfl⟩, ⟨by decide, by decide⟩, by decide +kernel, rfl, by decide⟩
theorem v_Mo_load : gd (.instanceMethod (my M_Mo_load)) := ⟨tb6_in (i := 12) rfl, rfl⟩
theorem s_Mo_load : gd (.selects "SuperDriverModel" (my M_Mo_load) (my M_Mo_load)) := ⟨pv_in (i := 31) rfl, rfl⟩
theorem k_Mo_lowestOpen : LK M_Mo_lowestOpen 0 := ⟨⟨tb6_in (i := 89) rfl, rfl⟩, ⟨tb1_in (i := 14) rfl, rfl⟩, ⟨by decide, by decide⟩, by decide +kernel, rfl, by decide⟩
theorem v_Mo_lowestOpen : gd (.instanceMethod (my M_Mo_lowestOpen)) := ⟨tb6_in (i := 88) rfl, rfl⟩
theorem s_Mo_lowestOpen : gd (.selects "SuperDriverModel" (my M_Mo_lowestOpen) (my M_Mo_lowestOpen)) := ⟨pv_in (i := 50) rfl, rfl⟩
theorem k_Mo_nextCall : LK M_Mo_nextCall 0 := ⟨⟨tb6_in (i := 17) rfl, rfl⟩, ⟨tb1_in (i := 14) rfl, rfl⟩, ⟨by decide, by decide⟩, by decide +kernel, rfl, by decide⟩
theorem v_Mo_nextCall : gd (.instanceMethod (my M_Mo_nextCall)) := ⟨tb6_in (i := 16) rfl, rfl⟩
theorem s_Mo_nextCall : gd (.selects "SuperDriverModel" (my M_Mo_nextCall) (my M_Mo_nextCall)) := ⟨pv_in (i := 32) rfl, rfl⟩
theorem k_Mo_node : LK M_Mo_node 2 := ⟨⟨tb6_in (i := 117) rfl, rfl⟩, ⟨tb1_in (i := 14) rfl, rfl⟩, ⟨by decide, by decide⟩, by decide +kernel, rfl, by decide⟩
theorem v_Mo_node : gd (.instanceMethod (my M_Mo_node)) := ⟨tb6_in (i := 115) rfl, rfl⟩
theorem s_Mo_node : gd (.selects "SuperDriverModel" (my M_Mo_node) (my M_Mo_node)) := ⟨tb6_in (i := 116) rfl, rfl⟩
theorem k_Mo_partsOf : LK M_Mo_partsOf 1 := ⟨⟨tb5_in (i := 213) rfl, rfl⟩, ⟨tb1_in (i := 14) rfl, rfl⟩, ⟨by decide, by decide⟩, by decide +kernel, rfl, by decide⟩
theorem v_Mo_partsOf : gd (.instanceMethod (my M_Mo_partsOf)) := ⟨tb5_in (i := 212) rfl, rfl⟩
theorem s_Mo_partsOf : gd (.selects "SuperDriverModel" (my M_Mo_partsOf) (my M_Mo_partsOf)) := ⟨pv_in (i := 24) rfl, rfl⟩
theorem k_Mo_put : LK M_Mo_put 1 := ⟨⟨tb6_in (i := 109) rfl, rfl⟩, ⟨tb1_in (i := 14) rfl, rfl⟩, ⟨by decide, by decide⟩, by decide +kernel, rfl, by decide⟩
theorem v_Mo_put : gd (.instanceMethod (my M_Mo_put)) := ⟨tb6_in (i := 108) rfl, rfl⟩
theorem s_Mo_put : gd (.selects "SuperDriverModel" (my M_Mo_put) (my M_Mo_put)) := ⟨pv_in (i := 55) rfl, rfl⟩
theorem k_Mo_putCall : LK M_Mo_putCall 1 := ⟨⟨tb6_in (i := 105) rfl, rfl⟩, ⟨tb1_in (i := 14) rfl, rfl⟩, ⟨by decide, by decide⟩, by decide +kernel, rfl, by decide⟩
theorem v_Mo_putCall : gd (.instanceMethod (my M_Mo_putCall)) := ⟨tb6_in (i := 104) rfl, rfl⟩
theorem s_Mo_putCall : gd (.selects "SuperDriverModel" (my M_Mo_putCall) (my M_Mo_putCall)) := ⟨pv_in (i := 54) rfl, rfl⟩
theorem k_Mo_putResidual : LK M_Mo_putResidual 1 := ⟨⟨tb6_in (i := 113) rfl, rfl⟩, ⟨tb1_in (i := 14) rfl, rfl⟩, ⟨by decide, by decide⟩, by decide +kernel, rfl, by decide⟩
theorem v_Mo_putResidual : gd (.instanceMethod (my M_Mo_putResidual)) := ⟨tb6_in (i := 112) rfl, rfl⟩
theorem s_Mo_putResidual : gd (.selects "SuperDriverModel" (my M_Mo_putResidual) (my M_Mo_putResidual)) := ⟨pv_in (i := 56) rfl, rfl⟩
theorem k_Mo_renames : LK M_Mo_renames 6 := ⟨⟨tb6_in (i := 45) rfl, rfl⟩, ⟨tb1_in (i := 14) rfl, rfl⟩, ⟨by decide, by decide⟩, by decide +kernel, rfl, by decide⟩
theorem v_Mo_renames : gd (.instanceMethod (my M_Mo_renames)) := ⟨tb6_in (i := 44) rfl, rfl⟩
theorem s_Mo_renames : gd (.selects "SuperDriverModel" (my M_Mo_renames) (my M_Mo_renames)) := ⟨pv_in (i := 39) rfl, rfl⟩
theorem k_Mo_renew : LK M_Mo_renew 1 := ⟨⟨tb6_in (i := 53) rfl, rfl⟩, ⟨tb1_in (i := 14) rfl, rfl⟩, ⟨by decide, by decide⟩, by decide +kernel, rfl, by decide⟩
theorem v_Mo_renew : gd (.instanceMethod (my M_Mo_renew)) := ⟨tb6_in (i := 52) rfl, rfl⟩
theorem s_Mo_renew : gd (.selects "SuperDriverModel" (my M_Mo_renew) (my M_Mo_renew)) := ⟨pv_in (i := 41) rfl, rfl⟩
theorem k_Mo_residual : LK M_Mo_residual 2 := ⟨⟨tb6_in (i := 129) rfl, rfl⟩, ⟨tb1_in (i := 14) rfl, rfl⟩, ⟨by decide, by decide⟩, by decide +kernel, rfl, by decide⟩
theorem v_Mo_residual : gd (.instanceMethod (my M_Mo_residual)) := ⟨tb6_in (i := 127) rfl, rfl⟩
theorem s_Mo_residual : gd (.selects "SuperDriverModel" (my M_Mo_residual) (my M_Mo_residual)) := ⟨tb6_in (i := 128) rfl, rfl⟩
theorem k_Mo_result : LK M_Mo_result 1 := ⟨⟨tb6_in (i := 145) rfl, rfl⟩, ⟨tb1_in (i := 14) rfl, rfl⟩, ⟨by decide, by decide⟩, by decide +kernel, rfl, by decide⟩
theorem v_Mo_result : gd (.instanceMethod (my M_Mo_result)) := ⟨tb6_in (i := 143) rfl, rfl⟩
theorem s_Mo_result : gd (.selects "SuperDriverModel" (my M_Mo_result) (my M_Mo_result)) := ⟨tb6_in (i := 144) rfl, rfl⟩
theorem k_Mo_rival : LK M_Mo_rival 3 := ⟨⟨tb6_in (i := 29) rfl, rfl⟩, ⟨tb1_in (i := 14) rfl, rfl⟩, ⟨by decide, by decide⟩, by decide +kernel, rfl, by decide⟩
theorem v_Mo_rival : gd (.instanceMethod (my M_Mo_rival)) := ⟨tb6_in (i := 28) rfl, rfl⟩
theorem s_Mo_rival : gd (.selects "SuperDriverModel" (my M_Mo_rival) (my M_Mo_rival)) := ⟨pv_in (i := 35) rfl, rfl⟩
theorem k_Mo_run : LK M_Mo_run 2 := ⟨⟨tb6_in (i := 133) rfl, rfl⟩, ⟨tb1_in (i := 14) rfl, rfl⟩, ⟨by decide, by decide⟩, by decide +kernel, rfl, by decide⟩
theorem v_Mo_run : gd (.instanceMethod (my M_Mo_run)) := ⟨tb6_in (i := 131) rfl, rfl⟩
theorem s_Mo_run : gd (.selects "SuperDriverModel" (my M_Mo_run) (my M_Mo_run)) := ⟨tb6_in (i := 132) rfl, rfl⟩
theorem k_Mo_signOf : LK M_Mo_signOf 1 := ⟨⟨tb5_in (i := 182) rfl, rfl⟩, ⟨tb1_in (i := 14) rfl, rfl⟩, ⟨by decide, by decide⟩, by decide +kernel, rfl, by decide⟩
theorem z_Mo_signOf : gd (.static (my M_Mo_signOf)) := ⟨tb5_in (i := 181) rfl, rfl⟩
theorem k_Mo_split : LK M_Mo_split 2 := ⟨⟨tb6_in (i := 85) rfl, rfl⟩, ⟨tb1_in (i := 14) rfl, rfl⟩, ⟨by decide, by decide⟩, by decide +kernel, rfl, by decide⟩
theorem v_Mo_split : gd (.instanceMethod (my M_Mo_split)) := ⟨tb6_in (i := 84) rfl, rfl⟩
theorem s_Mo_split : gd (.selects "SuperDriverModel" (my M_Mo_split) (my M_Mo_split)) := ⟨pv_in (i := 49) rfl, rfl⟩
theorem k_Mo_stand : LK M_Mo_stand 2 := ⟨⟨tb6_in (i := 81) rfl, rfl⟩, ⟨tb1_in (i := 14) rfl, rfl⟩, ⟨by decide, by decide⟩, by decide +kernel, rfl, by decide⟩
theorem v_Mo_stand : gd (.instanceMethod (my M_Mo_stand)) := ⟨tb6_in (i := 80) rfl, rfl⟩
theorem s_Mo_stand : gd (.selects "SuperDriverModel" (my M_Mo_stand) (my M_Mo_stand)) := ⟨pv_in (i := 48) rfl, rfl⟩
theorem k_Mo_steps : LK M_Mo_steps 0 := ⟨⟨tb6_in (i := 149) rfl, rfl⟩, ⟨tb1_in (i := 14) rfl, rfl⟩, ⟨by decide, by decide⟩, by decide +kernel, rfl, by decide⟩
theorem v_Mo_steps : gd (.instanceMethod (my M_Mo_steps)) := ⟨tb6_in (i := 147) rfl, rfl⟩
theorem s_Mo_steps : gd (.selects "SuperDriverModel" (my M_Mo_steps) (my M_Mo_steps)) := ⟨tb6_in (i := 148) rfl, rfl⟩
theorem k_Mo_takeText : LK M_Mo_takeText 2 := ⟨⟨tb5_in (i := 217) rfl, rfl⟩, ⟨tb1_in (i := 14) rfl, rfl⟩, ⟨by decide, by decide⟩, by decide +kernel, rfl, by decide⟩
theorem v_Mo_takeText : gd (.instanceMethod (my M_Mo_takeText)) := ⟨tb5_in (i := 216) rfl, rfl⟩
theorem s_Mo_takeText : gd (.selects "SuperDriverModel" (my M_Mo_takeText) (my M_Mo_takeText)) := ⟨pv_in (i := 25) rfl, rfl⟩
theorem k_Mo_term : LK M_Mo_term 2 := ⟨⟨tb6_in (i := 125) rfl, rfl⟩, ⟨tb1_in (i := 14) rfl, rfl⟩, ⟨by decide, by decide⟩, by decide +kernel, rfl, by decide⟩
theorem v_Mo_term : gd (.instanceMethod (my M_Mo_term)) := ⟨tb6_in (i := 123) rfl, rfl⟩
theorem s_Mo_term : gd (.selects "SuperDriverModel" (my M_Mo_term) (my M_Mo_term)) := ⟨tb6_in (i := 124) rfl, rfl⟩
theorem k_Mo_throwing : LK M_Mo_throwing 2 := ⟨⟨tb5_in (i := 198) rfl, rfl⟩, ⟨tb1_in (i := 14) rfl, rfl⟩, ⟨by decide, by decide⟩, by decide +kernel, rfl, by decide⟩
theorem v_Mo_throwing : gd (.instanceMethod (my M_Mo_throwing)) := ⟨tb5_in (i := 197) rfl, rfl⟩
theorem s_Mo_throwing : gd (.selects "SuperDriverModel" (my M_Mo_throwing) (my M_Mo_throwing)) := ⟨pv_in (i := 22) rfl, rfl⟩
theorem k_Mo_thrown : LK M_Mo_thrown 0 := ⟨⟨tb5_in (i := 174) rfl, rfl⟩, ⟨tb1_in (i := 14) rfl, rfl⟩, ⟨by decide, by decide⟩, by decide +kernel, rfl, by decide⟩
theorem v_Mo_thrown : gd (.instanceMethod (my M_Mo_thrown)) := ⟨tb5_in (i := 172) rfl, rfl⟩
theorem s_Mo_thrown : gd (.selects "SuperDriverModel" (my M_Mo_thrown) (my M_Mo_thrown)) := ⟨tb5_in (i := 173) rfl, rfl⟩
theorem k_Mo_turn : LK M_Mo_turn 1 := ⟨⟨tb5_in (i := 237) rfl, rfl⟩, ⟨tb1_in (i := 14) rfl, rfl⟩, ⟨by decide, by decide⟩, by decide +kernel, rfl, by decide⟩
theorem v_Mo_turn : gd (.instanceMethod (my M_Mo_turn)) := ⟨tb5_in (i := 236) rfl, rfl⟩
theorem s_Mo_turn : gd (.selects "SuperDriverModel" (my M_Mo_turn) (my M_Mo_turn)) := ⟨pv_in (i := 27) rfl, rfl⟩
theorem k_Mo_type : LK M_Mo_type 1 := ⟨⟨tb5_in (i := 178) rfl, rfl⟩, ⟨tb1_in (i := 14) rfl, rfl⟩, ⟨by decide, by decide⟩, by decide +kernel, rfl, by decide⟩
theorem v_Mo_type : gd (.instanceMethod (my M_Mo_type)) := ⟨tb5_in (i := 176) rfl, rfl⟩
theorem s_Mo_type : gd (.selects "SuperDriverModel" (my M_Mo_type) (my M_Mo_type)) := ⟨tb5_in (i := 177) rfl, rfl⟩
theorem k_Mo_unfold : LK M_Mo_unfold 1 := ⟨⟨tb6_in (i := 73) rfl, rfl⟩, ⟨tb1_in (i := 14) rfl, rfl⟩, ⟨by decide, by decide⟩, by decide +kernel, rfl, by decide⟩
theorem v_Mo_unfold : gd (.instanceMethod (my M_Mo_unfold)) := ⟨tb6_in (i := 72) rfl, rfl⟩
theorem s_Mo_unfold : gd (.selects "SuperDriverModel" (my M_Mo_unfold) (my M_Mo_unfold)) := ⟨pv_in (i := 46) rfl, rfl⟩
theorem k_Mo_wipe : LK M_Mo_wipe 0 := ⟨⟨tb5_in (i := 186) rfl, rfl⟩, ⟨tb1_in (i := 14) rfl, rfl⟩, ⟨by decide, by decide⟩, by decide +kernel, rfl, by decide⟩
theorem v_Mo_wipe : gd (.instanceMethod (my M_Mo_wipe)) := ⟨tb5_in (i := 184) rfl, rfl⟩
theorem s_Mo_wipe : gd (.selects "SuperDriverModel" (my M_Mo_wipe) (my M_Mo_wipe)) := ⟨tb5_in (i := 185) rfl, rfl⟩
theorem k_Mo_write : LK M_Mo_write 1 := ⟨⟨tb6_in (i := 101) rfl, rfl⟩, ⟨tb1_in (i := 14) rfl, rfl⟩, ⟨by decide, by decide⟩, by decide +kernel, rfl, by decide⟩
theorem v_Mo_write : gd (.instanceMethod (my M_Mo_write)) := ⟨tb6_in (i := 100) rfl, rfl⟩
theorem s_Mo_write : gd (.selects "SuperDriverModel" (my M_Mo_write) (my M_Mo_write)) := ⟨pv_in (i := 53) rfl, rfl⟩
theorem ini_Law : gd (.initialized "SuperDriverLaw") := ⟨tb1_in (i := 0) rfl, rfl⟩
theorem ini_SD : gd (.initialized "SuperDriver") := ⟨tb1_in (i := 1) rfl, rfl⟩
theorem ini_Row : gd (.initialized "SuperDriver$Row") := ⟨tb1_in (i := 2) rfl, rfl⟩
theorem ini_Math : gd (.initialized "java/lang/Math") := ⟨tb1_in (i := 3) rfl, rfl⟩
theorem ini_Substitution : gd (.initialized "SuperDriver$Substitution") := ⟨tb1_in (i := 4) rfl, rfl⟩
theorem ini_Signs : gd (.initialized "SuperDriver$Signs") := ⟨tb1_in (i := 5) rfl, rfl⟩
theorem ini_Program : gd (.initialized "SuperDriver$Program") := ⟨tb1_in (i := 6) rfl, rfl⟩
theorem ini_SourceProgram : gd (.initialized "SuperDriver$SourceProgram") := ⟨tb1_in (i := 7) rfl, rfl⟩
theorem ini_Tree : gd (.initialized "SuperDriver$Tree") := ⟨tb1_in (i := 8) rfl, rfl⟩
theorem ini_Node : gd (.initialized "SuperDriver$Node") := ⟨tb1_in (i := 9) rfl, rfl⟩
theorem ini_Driver : gd (.initialized "SuperDriver$Driver") := ⟨tb1_in (i := 10) rfl, rfl⟩
theorem ini_Generaliser : gd (.initialized "SuperDriver$Generaliser") := ⟨tb1_in (i := 11) rfl, rfl⟩
theorem ini_ResidualProgram : gd (.initialized "SuperDriver$ResidualProgram") := ⟨tb1_in (i := 12) rfl, rfl⟩
theorem ini_Runner : gd (.initialized "SuperDriver$Runner") := ⟨tb1_in (i := 13) rfl, rfl⟩
theorem ini_Mo : gd (.initialized "SuperDriverModel") := ⟨tb1_in (i := 14) rfl, rfl⟩
theorem ini_Throwable : gd (.initialized "java/lang/Throwable") := ⟨tb1_in (i := 15) rfl, rfl⟩
theorem ini_Exception : gd (.initialized "java/lang/Exception") := ⟨tb1_in (i := 16) rfl, rfl⟩
theorem ini_RuntimeException : gd (.initialized "java/lang/RuntimeException") := ⟨tb1_in (i := 17) rfl, rfl⟩
theorem ini_IllegalArgumentException : gd (.initialized "java/lang/IllegalArgumentException") := ⟨tb1_in (i := 18) rfl, rfl⟩
theorem ini_IllegalStateException : gd (.initialized "java/lang/IllegalStateException") := ⟨tb1_in (i := 19) rfl, rfl⟩
theorem ini_System : gd (.initialized "java/lang/System") := ⟨tb1_in (i := 20) rfl, rfl⟩
theorem ini_UnsupportedOperationException : gd (.initialized "java/lang/UnsupportedOperationException") := ⟨tb1_in (i := 21) rfl, rfl⟩
theorem cl_Law_8 : gd (.classLink "SuperDriverLaw" 8 "SuperDriver") := ⟨tb1_in (i := 22) rfl, rfl⟩
theorem ins_SD : gd (.instantiable "SuperDriver" 9) := ⟨tb1_in (i := 23) rfl, rfl⟩
theorem l_Law_34 : gd (.methodLink "SuperDriverLaw" 34 (my M_SD_init)) := ⟨tb1_in (i := 24) rfl, rfl⟩
theorem l_SD_3 : gd (.methodLink "SuperDriver" 3 ⟨"java/lang/Object", "<init>", "()V"⟩) := ⟨tb1_in (i := 27) rfl, rfl⟩
theorem cl_SD_9 : gd (.classLink "SuperDriver" 9 "SuperDriver$Row") := ⟨tb1_in (i := 30) rfl, rfl⟩
theorem ins_Row : gd (.instantiable "SuperDriver$Row" 3) := ⟨tb1_in (i := 31) rfl, rfl⟩
theorem l_SD_11 : gd (.methodLink "SuperDriver" 11 (my M_Row_init)) := ⟨tb1_in (i := 32) rfl, rfl⟩
theorem l_Row_3 : gd (.methodLink "SuperDriver$Row" 3 ⟨"java/lang/Object", "<init>", "()V"⟩) := ⟨tb1_in (i := 35) rfl, rfl⟩
theorem l_Row_9 : gd (.methodLink "SuperDriver$Row" 9 ⟨"java/lang/Math", "max", "(II)I"⟩) := ⟨tb1_in (i := 36) rfl, rfl⟩
theorem ac_int : gd (.arrayClass .int) := ⟨tb1_in (i := 49) rfl, rfl⟩
theorem ao_Row : Cond.arrayOver (.object "SuperDriver$Row") ∈ lw_tbl := tb1_in (i := 50) rfl
theorem cl_SD_25 : gd (.classLink "SuperDriver" 25 "SuperDriver$Substitution") := ⟨tb1_in (i := 51) rfl, rfl⟩
theorem ins_Substitution : gd (.instantiable "SuperDriver$Substitution" 5) := ⟨tb1_in (i := 52) rfl, rfl⟩
theorem ln_SD_27 : Cond.methodLinkNest "SuperDriver" 27 (my M_Substitution_init) "SuperDriver" ∈ lw_tbl := tb1_in (i := 53) rfl
theorem l_Substitution_3 : gd (.methodLink "SuperDriver$Substitution" 3 ⟨"java/lang/Object", "<init>", "()V"⟩) := ⟨tb1_in (i := 56) rfl, rfl⟩
theorem cl_Substitution_9 : gd (.classLink "SuperDriver$Substitution" 9 "SuperDriver$Row") := ⟨tb1_in (i := 57) rfl, rfl⟩
theorem cl_SD_28 : gd (.classLink "SuperDriver" 28 "SuperDriver$Signs") := ⟨tb1_in (i := 74) rfl, rfl⟩
theorem ins_Signs : gd (.instantiable "SuperDriver$Signs" 5) := ⟨tb1_in (i := 75) rfl, rfl⟩
theorem l_SD_30 : gd (.methodLink "SuperDriver" 30 (my M_Signs_init)) := ⟨tb1_in (i := 76) rfl, rfl⟩
theorem l_Signs_3 : gd (.methodLink "SuperDriver$Signs" 3 ⟨"java/lang/Object", "<init>", "()V"⟩) := ⟨tb1_in (i := 79) rfl, rfl⟩
theorem ac_boolean : gd (.arrayClass .boolean) := ⟨tb1_in (i := 98) rfl, rfl⟩
theorem ac_long : gd (.arrayClass .long) := ⟨tb1_in (i := 99) rfl, rfl⟩
theorem cl_SD_35 : gd (.classLink "SuperDriver" 35 "SuperDriver$SourceProgram") := ⟨tb1_in (i := 100) rfl, rfl⟩
theorem ins_SourceProgram : gd (.instantiable "SuperDriver$SourceProgram" 3) := ⟨tb1_in (i := 101) rfl, rfl⟩
theorem l_SD_37 : gd (.methodLink "SuperDriver" 37 (my M_SourceProgram_init)) := ⟨tb1_in (i := 102) rfl, rfl⟩
theorem l_SourceProgram_3 : gd (.methodLink "SuperDriver$SourceProgram" 3 (my M_Program_init)) := ⟨tb1_in (i := 105) rfl, rfl⟩
theorem l_Program_3 : gd (.methodLink "SuperDriver$Program" 3 ⟨"java/lang/Object", "<init>", "()V"⟩) := ⟨tb1_in (i := 108) rfl, rfl⟩
theorem cl_SourceProgram_9 : gd (.classLink "SuperDriver$SourceProgram" 9 "SuperDriver$Row") := ⟨tb1_in (i := 109) rfl, rfl⟩
theorem l_SourceProgram_17 : gd (.methodLink "SuperDriver$SourceProgram" 17 (my M_Row_init)) := ⟨tb1_in (i := 110) rfl, rfl⟩
theorem cl_SD_44 : gd (.classLink "SuperDriver" 44 "SuperDriver$Tree") := ⟨tb1_in (i := 127) rfl, rfl⟩
theorem ins_Tree : gd (.instantiable "SuperDriver$Tree" 4) := ⟨tb1_in (i := 128) rfl, rfl⟩
theorem l_SD_46 : gd (.methodLink "SuperDriver" 46 (my M_Tree_init)) := ⟨tb1_in (i := 129) rfl, rfl⟩
theorem l_Tree_3 : gd (.methodLink "SuperDriver$Tree" 3 ⟨"java/lang/Object", "<init>", "()V"⟩) := ⟨tb1_in (i := 132) rfl, rfl⟩
theorem cl_Tree_9 : gd (.classLink "SuperDriver$Tree" 9 "SuperDriver$Node") := ⟨tb1_in (i := 133) rfl, rfl⟩
theorem ao_Node : Cond.arrayOver (.object "SuperDriver$Node") ∈ lw_tbl := tb1_in (i := 134) rfl
theorem ins_Node : gd (.instantiable "SuperDriver$Node" 14) := ⟨tb1_in (i := 135) rfl, rfl⟩
theorem l_Tree_28 : gd (.methodLink "SuperDriver$Tree" 28 (my M_Node_init)) := ⟨tb1_in (i := 136) rfl, rfl⟩
theorem l_Node_3 : gd (.methodLink "SuperDriver$Node" 3 ⟨"java/lang/Object", "<init>", "()V"⟩) := ⟨tb1_in (i := 139) rfl, rfl⟩
theorem cl_Node_9 : gd (.classLink "SuperDriver$Node" 9 "SuperDriver$Row") := ⟨tb1_in (i := 140) rfl, rfl⟩
theorem l_Node_11 : gd (.methodLink "SuperDriver$Node" 11 (my M_Row_init)) := ⟨tb1_in (i := 141) rfl, rfl⟩
theorem cl_SD_51 : gd (.classLink "SuperDriver" 51 "SuperDriver$Driver") := ⟨tb1_in (i := 225) rfl, rfl⟩
theorem ins_Driver : gd (.instantiable "SuperDriver$Driver" 8) := ⟨tb1_in (i := 226) rfl, rfl⟩
theorem l_SD_53 : gd (.methodLink "SuperDriver" 53 (my M_Driver_init)) := ⟨tb1_in (i := 227) rfl, rfl⟩
theorem l_Driver_3 : gd (.methodLink "SuperDriver$Driver" 3 ⟨"java/lang/Object", "<init>", "()V"⟩) := ⟨tb1_in (i := 230) rfl, rfl⟩
theorem cl_Driver_9 : gd (.classLink "SuperDriver$Driver" 9 "SuperDriver$Row") := ⟨tb1_in (i := 231) rfl, rfl⟩
theorem l_Driver_11 : gd (.methodLink "SuperDriver$Driver" 11 (my M_Row_init)) := ⟨tb1_in (i := 232) rfl, rfl⟩
theorem cl_Driver_42 : gd (.classLink "SuperDriver$Driver" 42 "SuperDriver$Generaliser") := ⟨tb1_in (i := 233) rfl, rfl⟩
theorem ins_Generaliser : gd (.instantiable "SuperDriver$Generaliser" 7) := ⟨tb1_in (i := 234) rfl, rfl⟩
theorem l_Driver_44 : gd (.methodLink "SuperDriver$Driver" 44 (my M_Generaliser_init)) := ⟨tb1_in (i := 235) rfl, rfl⟩
theorem l_Generaliser_3 : gd (.methodLink "SuperDriver$Generaliser" 3 ⟨"java/lang/Object", "<init>", "()V"⟩) := ⟨tb1_in (i := 238) rfl, rfl⟩
theorem cl_Generaliser_9 : gd (.classLink "SuperDriver$Generaliser" 9 "SuperDriver$Row") := ⟨tb1_in (i := 239) rfl, rfl⟩
theorem l_Generaliser_11 : gd (.methodLink "SuperDriver$Generaliser" 11 (my M_Row_init)) := ⟨tb2_in (i := 0) rfl, rfl⟩
theorem cl_SD_60 : gd (.classLink "SuperDriver" 60 "SuperDriver$ResidualProgram") := ⟨tb2_in (i := 48) rfl, rfl⟩
theorem ins_ResidualProgram : gd (.instantiable "SuperDriver$ResidualProgram" 3) := ⟨tb2_in (i := 49) rfl, rfl⟩
theorem l_SD_62 : gd (.methodLink "SuperDriver" 62 (my M_ResidualProgram_init)) := ⟨tb2_in (i := 50) rfl, rfl⟩
theorem l_ResidualProgram_3 : gd (.methodLink "SuperDriver$ResidualProgram" 3 (my M_Program_init)) := ⟨tb2_in (i := 53) rfl, rfl⟩
theorem cl_SD_69 : gd (.classLink "SuperDriver" 69 "SuperDriver$Runner") := ⟨tb2_in (i := 60) rfl, rfl⟩
theorem ins_Runner : gd (.instantiable "SuperDriver$Runner" 6) := ⟨tb2_in (i := 61) rfl, rfl⟩
theorem l_SD_71 : gd (.methodLink "SuperDriver" 71 (my M_Runner_init)) := ⟨tb2_in (i := 62) rfl, rfl⟩
theorem l_Runner_3 : gd (.methodLink "SuperDriver$Runner" 3 ⟨"java/lang/Object", "<init>", "()V"⟩) := ⟨tb2_in (i := 65) rfl, rfl⟩
theorem cl_Runner_9 : gd (.classLink "SuperDriver$Runner" 9 "SuperDriver$Row") := ⟨tb2_in (i := 66) rfl, rfl⟩
theorem l_Runner_11 : gd (.methodLink "SuperDriver$Runner" 11 (my M_Row_init)) := ⟨tb2_in (i := 67) rfl, rfl⟩
theorem l_Law_40 : gd (.methodLink "SuperDriverLaw" 40 (my M_SD_type)) := ⟨tb2_in (i := 115) rfl, rfl⟩
theorem l_SD_76 : gd (.methodLink "SuperDriver" 76 (my M_SD_letterAt)) := ⟨tb2_in (i := 119) rfl, rfl⟩
theorem l_SD_80 : gd (.methodLink "SuperDriver" 80 (my M_SD_signOf)) := ⟨tb2_in (i := 122) rfl, rfl⟩
theorem l_SD_84 : gd (.methodLink "SuperDriver" 84 (my M_Row_length)) := ⟨tb2_in (i := 125) rfl, rfl⟩
theorem l_SD_88 : gd (.methodLink "SuperDriver" 88 (my M_Row_add)) := ⟨tb2_in (i := 129) rfl, rfl⟩
theorem l_Law_45 : gd (.methodLink "SuperDriverLaw" 45 (my M_SD_wipe)) := ⟨tb2_in (i := 133) rfl, rfl⟩
theorem l_SD_91 : gd (.methodLink "SuperDriver" 91 (my M_Row_clear)) := ⟨tb2_in (i := 137) rfl, rfl⟩
theorem l_Law_49 : gd (.methodLink "SuperDriverLaw" 49 (my M_SD_forget)) := ⟨tb2_in (i := 141) rfl, rfl⟩
theorem l_SD_94 : gd (.methodLink "SuperDriver" 94 (my M_SourceProgram_clear)) := ⟨tb2_in (i := 145) rfl, rfl⟩
theorem l_SourceProgram_24 : gd (.methodLink "SuperDriver$SourceProgram" 24 (my M_Signs_shape)) := ⟨tb2_in (i := 149) rfl, rfl⟩
theorem ln_Signs_32 : Cond.methodLinkNest "SuperDriver$Signs" 32 (my M_SD_isCall) "SuperDriver" ∈ lw_tbl := tb2_in (i := 153) rfl
theorem l_SourceProgram_30 : gd (.methodLink "SuperDriver$SourceProgram" 30 (my M_Row_clear)) := ⟨tb2_in (i := 156) rfl, rfl⟩
theorem l_SD_95 : gd (.methodLink "SuperDriver" 95 (my M_Tree_clear)) := ⟨tb2_in (i := 157) rfl, rfl⟩
theorem l_SD_96 : gd (.methodLink "SuperDriver" 96 (my M_Runner_clear)) := ⟨tb2_in (i := 161) rfl, rfl⟩
theorem l_Law_70 : gd (.methodLink "SuperDriverLaw" 70 (my M_SD_input)) := ⟨tb2_in (i := 165) rfl, rfl⟩
theorem l_SD_139 : gd (.methodLink "SuperDriver" 139 (my M_Signs_isValue)) := ⟨tb2_in (i := 169) rfl, rfl⟩
theorem l_Signs_36 : gd (.methodLink "SuperDriver$Signs" 36 (my M_Row_length)) := ⟨tb2_in (i := 173) rfl, rfl⟩
theorem l_Signs_42 : gd (.methodLink "SuperDriver$Signs" 42 (my M_Row_at)) := ⟨tb2_in (i := 174) rfl, rfl⟩
theorem ln_Signs_49 : Cond.methodLinkNest "SuperDriver$Signs" 49 (my M_SD_isConstructor) "SuperDriver" ∈ lw_tbl := tb2_in (i := 178) rfl
theorem l_Signs_52 : gd (.methodLink "SuperDriver$Signs" 52 (my M_Signs_isTerm)) := ⟨tb2_in (i := 181) rfl, rfl⟩
theorem l_Signs_46 : gd (.methodLink "SuperDriver$Signs" 46 (my M_Signs_partsOf)) := ⟨tb2_in (i := 185) rfl, rfl⟩
theorem l_SD_135 : gd (.methodLink "SuperDriver" 135 (my M_Row_copy)) := ⟨tb2_in (i := 189) rfl, rfl⟩
theorem l_Row_38 : gd (.methodLink "SuperDriver$Row" 38 (my M_Row_clear)) := ⟨tb2_in (i := 193) rfl, rfl⟩
theorem l_Row_41 : gd (.methodLink "SuperDriver$Row" 41 (my M_Row_addRange)) := ⟨tb2_in (i := 194) rfl, rfl⟩
theorem l_Row_29 : gd (.methodLink "SuperDriver$Row" 29 ⟨"java/lang/Math", "min", "(II)I"⟩) := ⟨tb2_in (i := 198) rfl, rfl⟩
theorem l_Row_32 : gd (.methodLink "SuperDriver$Row" 32 ⟨"java/lang/System", "arraycopy", "(Ljava/lang/Object;ILjava/lang/Object;II)V"⟩) := ⟨tb2_in (i := 201) rfl, rfl⟩
theorem l_Law_79 : gd (.methodLink "SuperDriverLaw" 79 (my M_SD_node)) := ⟨tb2_in (i := 204) rfl, rfl⟩
theorem l_SD_168 : gd (.methodLink "SuperDriver" 168 (my M_Tree_get)) := ⟨tb2_in (i := 208) rfl, rfl⟩
theorem l_Law_84 : gd (.methodLink "SuperDriverLaw" 84 (my M_SD_term)) := ⟨tb2_in (i := 212) rfl, rfl⟩
theorem l_SD_195 : gd (.methodLink "SuperDriver" 195 (my M_Row_at)) := ⟨tb2_in (i := 216) rfl, rfl⟩
theorem l_Law_88 : gd (.methodLink "SuperDriverLaw" 88 (my M_SD_residual)) := ⟨tb2_in (i := 217) rfl, rfl⟩
theorem l_Law_96 : gd (.methodLink "SuperDriverLaw" 96 (my M_SD_result)) := ⟨tb2_in (i := 221) rfl, rfl⟩
theorem l_SD_219 : gd (.methodLink "SuperDriver" 219 (my M_Runner_constructorAt)) := ⟨tb2_in (i := 225) rfl, rfl⟩
theorem l_Runner_43 : gd (.methodLink "SuperDriver$Runner" 43 (my M_Row_length)) := ⟨tb2_in (i := 229) rfl, rfl⟩
theorem l_Runner_74 : gd (.methodLink "SuperDriver$Runner" 74 (my M_Row_at)) := ⟨tb2_in (i := 230) rfl, rfl⟩
theorem ln_Runner_78 : Cond.methodLinkNest "SuperDriver$Runner" 78 (my M_SD_isConstructor) "SuperDriver" ∈ lw_tbl := tb2_in (i := 231) rfl
theorem l_Law_101 : gd (.methodLink "SuperDriverLaw" 101 (my M_SD_steps)) := ⟨tb2_in (i := 232) rfl, rfl⟩
theorem l_SD_222 : gd (.methodLink "SuperDriver" 222 (my M_Runner_stepsMade)) := ⟨tb2_in (i := 236) rfl, rfl⟩
theorem l_Law_53 : gd (.methodLink "SuperDriverLaw" 53 (my M_Law_function)) := ⟨tb3_in (i := 0) rfl, rfl⟩
theorem l_Law_7 : gd (.methodLink "SuperDriverLaw" 7 (my M_SD_function)) := ⟨tb3_in (i := 5) rfl, rfl⟩
theorem l_SD_101 : gd (.methodLink "SuperDriver" 101 ⟨"java/lang/IllegalArgumentException", "<init>", "(Ljava/lang/String;)V"⟩) := ⟨tb3_in (i := 51) rfl, rfl⟩
theorem ac_byte : gd (.arrayClass .byte) := ⟨tb3_in (i := 76) rfl, rfl⟩
theorem l_SD_104 : gd (.methodLink "SuperDriver" 104 (my M_SourceProgram_isDeclared)) := ⟨tb3_in (i := 77) rfl, rfl⟩
theorem l_SourceProgram_34 : gd (.methodLink "SuperDriver$SourceProgram" 34 (my M_Signs_partsOf)) := ⟨tb3_in (i := 81) rfl, rfl⟩
theorem l_SD_112 : gd (.methodLink "SuperDriver" 112 ⟨"java/lang/IllegalStateException", "<init>", "(Ljava/lang/String;)V"⟩) := ⟨tb3_in (i := 92) rfl, rfl⟩
theorem l_SD_113 : gd (.methodLink "SuperDriver" 113 (my M_SourceProgram_declare)) := ⟨tb3_in (i := 98) rfl, rfl⟩
theorem l_Law_62 : gd (.methodLink "SuperDriverLaw" 62 (my M_Law_body)) := ⟨tb3_in (i := 102) rfl, rfl⟩
theorem l_Law_17 : gd (.methodLink "SuperDriverLaw" 17 (my M_SD_body)) := ⟨tb3_in (i := 105) rfl, rfl⟩
theorem l_SD_119 : gd (.methodLink "SuperDriver" 119 (my M_SourceProgram_mayHave)) := ⟨tb3_in (i := 110) rfl, rfl⟩
theorem l_SourceProgram_38 : gd (.methodLink "SuperDriver$SourceProgram" 38 (my M_Signs_isCased)) := ⟨tb3_in (i := 114) rfl, rfl⟩
theorem ln_SourceProgram_42 : Cond.methodLinkNest "SuperDriver$SourceProgram" 42 (my M_SD_partsOfConstructor) "SuperDriver" ∈ lw_tbl := tb3_in (i := 118) rfl
theorem l_SourceProgram_45 : gd (.methodLink "SuperDriver$SourceProgram" 45 (my M_Row_length)) := ⟨tb3_in (i := 122) rfl, rfl⟩
theorem l_SourceProgram_49 : gd (.methodLink "SuperDriver$SourceProgram" 49 (my M_Row_at)) := ⟨tb3_in (i := 123) rfl, rfl⟩
theorem ln_SourceProgram_52 : Cond.methodLinkNest "SuperDriver$SourceProgram" 52 (my M_SD_isVariable) "SuperDriver" ∈ lw_tbl := tb3_in (i := 124) rfl
theorem l_SourceProgram_55 : gd (.methodLink "SuperDriver$SourceProgram" 55 (my M_Signs_isTerm)) := ⟨tb3_in (i := 127) rfl, rfl⟩
theorem l_SD_125 : gd (.methodLink "SuperDriver" 125 (my M_SourceProgram_define)) := ⟨tb3_in (i := 129) rfl, rfl⟩
theorem l_SourceProgram_59 : gd (.methodLink "SuperDriver$SourceProgram" 59 (my M_SourceProgram_placeOf)) := ⟨tb3_in (i := 133) rfl, rfl⟩
theorem l_SourceProgram_63 : gd (.methodLink "SuperDriver$SourceProgram" 63 (my M_Row_copy)) := ⟨tb3_in (i := 137) rfl, rfl⟩
theorem l_Law_66 : gd (.methodLink "SuperDriverLaw" 66 (my M_Law_goal)) := ⟨tb3_in (i := 138) rfl, rfl⟩
theorem l_Law_21 : gd (.methodLink "SuperDriverLaw" 21 (my M_SD_goal)) := ⟨tb3_in (i := 141) rfl, rfl⟩
theorem l_SD_129 : gd (.methodLink "SuperDriver" 129 (my M_Signs_isTerm)) := ⟨tb3_in (i := 145) rfl, rfl⟩
theorem l_Law_75 : gd (.methodLink "SuperDriverLaw" 75 (my M_Law_drive)) := ⟨tb3_in (i := 147) rfl, rfl⟩
theorem l_Law_24 : gd (.methodLink "SuperDriverLaw" 24 (my M_SD_drive)) := ⟨tb3_in (i := 151) rfl, rfl⟩
theorem l_SD_142 : gd (.methodLink "SuperDriver" 142 (my M_Row_isEmpty)) := ⟨tb3_in (i := 155) rfl, rfl⟩
theorem l_SD_148 : gd (.methodLink "SuperDriver" 148 (my M_Driver_begin)) := ⟨tb3_in (i := 160) rfl, rfl⟩
theorem l_Driver_51 : gd (.methodLink "SuperDriver$Driver" 51 (my M_Tree_clear)) := ⟨tb3_in (i := 164) rfl, rfl⟩
theorem l_Driver_56 : gd (.methodLink "SuperDriver$Driver" 56 (my M_Row_length)) := ⟨tb3_in (i := 165) rfl, rfl⟩
theorem l_Driver_60 : gd (.methodLink "SuperDriver$Driver" 60 (my M_Tree_add)) := ⟨tb3_in (i := 166) rfl, rfl⟩
theorem l_Tree_31 : gd (.methodLink "SuperDriver$Tree" 31 (my M_Row_isTooLong)) := ⟨tb3_in (i := 170) rfl, rfl⟩
theorem l_Tree_37 : gd (.methodLink "SuperDriver$Tree" 37 (my M_Node_open)) := ⟨tb3_in (i := 174) rfl, rfl⟩
theorem l_Node_27 : gd (.methodLink "SuperDriver$Node" 27 (my M_Row_clear)) := ⟨tb3_in (i := 178) rfl, rfl⟩
theorem l_Node_30 : gd (.methodLink "SuperDriver$Node" 30 (my M_Row_addRange)) := ⟨tb3_in (i := 179) rfl, rfl⟩
theorem l_Node_41 : gd (.methodLink "SuperDriver$Node" 41 (my M_Node_dropBelow)) := ⟨tb3_in (i := 180) rfl, rfl⟩
theorem l_Node_53 : gd (.methodLink "SuperDriver$Node" 53 (my M_Node_become)) := ⟨tb3_in (i := 184) rfl, rfl⟩
theorem l_Tree_41 : gd (.methodLink "SuperDriver$Tree" 41 (my M_Node_put)) := ⟨tb3_in (i := 188) rfl, rfl⟩
theorem l_SD_151 : gd (.methodLink "SuperDriver" 151 (my M_Tree_count)) := ⟨tb3_in (i := 192) rfl, rfl⟩
theorem l_SD_154 : gd (.methodLink "SuperDriver" 154 (my M_Driver_settle)) := ⟨tb3_in (i := 196) rfl, rfl⟩
theorem l_Driver_64 : gd (.methodLink "SuperDriver$Driver" 64 (my M_Tree_get)) := ⟨tb3_in (i := 200) rfl, rfl⟩
theorem l_Driver_74 : gd (.methodLink "SuperDriver$Driver" 74 (my M_Tree_isTooGreat)) := ⟨tb3_in (i := 201) rfl, rfl⟩
theorem l_Driver_81 : gd (.methodLink "SuperDriver$Driver" 81 (my M_Row_at)) := ⟨tb3_in (i := 205) rfl, rfl⟩
theorem ln_Driver_85 : Cond.methodLinkNest "SuperDriver$Driver" 85 (my M_SD_isCall) "SuperDriver" ∈ lw_tbl := tb3_in (i := 206) rfl
theorem l_Driver_89 : gd (.methodLink "SuperDriver$Driver" 89 (my M_Driver_settleWithoutCall)) := ⟨tb3_in (i := 207) rfl, rfl⟩
theorem l_Driver_136 : gd (.methodLink "SuperDriver$Driver" 136 (my M_Signs_partsOf)) := ⟨tb3_in (i := 211) rfl, rfl⟩
theorem l_Driver_111 : gd (.methodLink "SuperDriver$Driver" 111 (my M_Node_become)) := ⟨tb3_in (i := 212) rfl, rfl⟩
theorem l_Driver_139 : gd (.methodLink "SuperDriver$Driver" 139 (my M_Signs_behind)) := ⟨tb3_in (i := 213) rfl, rfl⟩
theorem l_Driver_93 : gd (.methodLink "SuperDriver$Driver" 93 (my M_Signs_nextCall)) := ⟨tb3_in (i := 217) rfl, rfl⟩
theorem l_Signs_56 : gd (.methodLink "SuperDriver$Signs" 56 (my M_Signs_isCased)) := ⟨tb3_in (i := 221) rfl, rfl⟩
theorem l_Driver_99 : gd (.methodLink "SuperDriver$Driver" 99 (my M_Program_unfolds)) := ⟨tb3_in (i := 222) rfl, rfl⟩
theorem sm_Program_unfolds : gd (.sameMethod "SuperDriver$Program" "SuperDriver$Program" "unfolds" "(LSuperDriver$Row;I)Z") := ⟨tb3_in (i := 224) rfl, rfl⟩
theorem l_Program_19 : gd (.methodLink "SuperDriver$Program" 19 (my M_Program_constructorAskedFor)) := ⟨tb3_in (i := 228) rfl, rfl⟩
theorem l_Program_23 : gd (.methodLink "SuperDriver$Program" 23 (my M_Row_at)) := ⟨tb3_in (i := 232) rfl, rfl⟩
theorem l_Program_29 : gd (.methodLink "SuperDriver$Program" 29 (my M_Signs_isCased)) := ⟨tb3_in (i := 233) rfl, rfl⟩
theorem ln_Program_76 : Cond.methodLinkNest "SuperDriver$Program" 76 (my M_SD_isConstructor) "SuperDriver" ∈ lw_tbl := tb3_in (i := 234) rfl
theorem l_Program_35 : gd (.methodLink "SuperDriver$Program" 35 ⟨"SuperDriver$Program", "bodyOf", "(II)LSuperDriver$Row;"⟩) := ⟨tb3_in (i := 235) rfl, rfl⟩
theorem dc_Program_bodyOf : Cond.declares ⟨"SuperDriver$Program", "bodyOf", "(II)LSuperDriver$Row;"⟩ ∈ lw_tbl := tb3_in (i := 236) rfl
theorem sm_Program_bodyOf : gd (.sameMethod "SuperDriver$Program" "SuperDriver$Program" "bodyOf" "(II)LSuperDriver$Row;") := ⟨tb3_in (i := 237) rfl, rfl⟩
theorem so_ResidualProgram_bodyOf : gd (.selects "SuperDriver$ResidualProgram" ⟨"SuperDriver$Program", "bodyOf", "(II)LSuperDriver$Row;"⟩ (my M_ResidualProgram_bodyOf)) := ⟨tb3_in (i := 238) rfl, rfl⟩
theorem l_ResidualProgram_15 : gd (.methodLink "SuperDriver$ResidualProgram" 15 (my M_Tree_get)) := ⟨tb4_in (i := 1) rfl, rfl⟩
theorem l_ResidualProgram_56 : gd (.methodLink "SuperDriver$ResidualProgram" 56 (my M_ResidualProgram_clauseBelow)) := ⟨tb4_in (i := 2) rfl, rfl⟩
theorem so_SourceProgram_bodyOf : gd (.selects "SuperDriver$SourceProgram" ⟨"SuperDriver$Program", "bodyOf", "(II)LSuperDriver$Row;"⟩ (my M_SourceProgram_bodyOf)) := ⟨tb4_in (i := 5) rfl, rfl⟩
theorem l_SourceProgram_67 : gd (.methodLink "SuperDriver$SourceProgram" 67 (my M_Row_isEmpty)) := ⟨tb4_in (i := 8) rfl, rfl⟩
theorem l_Driver_105 : gd (.methodLink "SuperDriver$Driver" 105 (my M_Signs_isCased)) := ⟨tb4_in (i := 9) rfl, rfl⟩
theorem ln_Driver_108 : Cond.methodLinkNest "SuperDriver$Driver" 108 (my M_SD_isVariable) "SuperDriver" ∈ lw_tbl := tb4_in (i := 10) rfl
theorem l_Driver_115 : gd (.methodLink "SuperDriver$Driver" 115 (my M_Driver_renamedRival)) := ⟨tb4_in (i := 11) rfl, rfl⟩
theorem l_Driver_143 : gd (.methodLink "SuperDriver$Driver" 143 (my M_Driver_nextRival)) := ⟨tb4_in (i := 14) rfl, rfl⟩
theorem l_Driver_146 : gd (.methodLink "SuperDriver$Driver" 146 (my M_Row_isRenamingOf)) := ⟨tb4_in (i := 17) rfl, rfl⟩
theorem l_Row_45 : gd (.methodLink "SuperDriver$Row" 45 (my M_Row_at)) := ⟨tb4_in (i := 21) rfl, rfl⟩
theorem ln_Row_49 : Cond.methodLinkNest "SuperDriver$Row" 49 (my M_SD_isVariable) "SuperDriver" ∈ lw_tbl := tb4_in (i := 22) rfl
theorem l_Row_53 : gd (.methodLink "SuperDriver$Row" 53 (my M_Row_indexOf)) := ⟨tb4_in (i := 23) rfl, rfl⟩
theorem l_Driver_119 : gd (.methodLink "SuperDriver$Driver" 119 (my M_Driver_embeddedRival)) := ⟨tb4_in (i := 27) rfl, rfl⟩
theorem l_Driver_150 : gd (.methodLink "SuperDriver$Driver" 150 (my M_Signs_isEmbedded)) := ⟨tb4_in (i := 31) rfl, rfl⟩
theorem l_Signs_59 : gd (.methodLink "SuperDriver$Signs" 59 (my M_Row_isEmpty)) := ⟨tb4_in (i := 35) rfl, rfl⟩
theorem l_Signs_63 : gd (.methodLink "SuperDriver$Signs" 63 (my M_Signs_findEnds)) := ⟨tb4_in (i := 36) rfl, rfl⟩
theorem l_Signs_82 : gd (.methodLink "SuperDriver$Signs" 82 ⟨"java/lang/Math", "min", "(II)I"⟩) := ⟨tb4_in (i := 40) rfl, rfl⟩
theorem l_Signs_67 : gd (.methodLink "SuperDriver$Signs" 67 (my M_Signs_embeddedInParts)) := ⟨tb4_in (i := 41) rfl, rfl⟩
theorem l_Signs_71 : gd (.methodLink "SuperDriver$Signs" 71 (my M_Signs_couples)) := ⟨tb4_in (i := 45) rfl, rfl⟩
theorem ln_Signs_79 : Cond.methodLinkNest "SuperDriver$Signs" 79 (my M_SD_isVariable) "SuperDriver" ∈ lw_tbl := tb4_in (i := 49) rfl
theorem l_Signs_75 : gd (.methodLink "SuperDriver$Signs" 75 (my M_Signs_isMarked)) := ⟨tb4_in (i := 50) rfl, rfl⟩
theorem l_Driver_122 : gd (.methodLink "SuperDriver$Driver" 122 (my M_Node_fold)) := ⟨tb4_in (i := 54) rfl, rfl⟩
theorem l_Driver_125 : gd (.methodLink "SuperDriver$Driver" 125 (my M_Generaliser_generalise)) := ⟨tb4_in (i := 58) rfl, rfl⟩
theorem l_Generaliser_42 : gd (.methodLink "SuperDriver$Generaliser" 42 (my M_Row_clear)) := ⟨tb4_in (i := 62) rfl, rfl⟩
theorem l_Generaliser_50 : gd (.methodLink "SuperDriver$Generaliser" 50 (my M_Row_at)) := ⟨tb4_in (i := 63) rfl, rfl⟩
theorem l_Generaliser_54 : gd (.methodLink "SuperDriver$Generaliser" 54 (my M_Generaliser_takeApart)) := ⟨tb4_in (i := 64) rfl, rfl⟩
theorem l_Generaliser_76 : gd (.methodLink "SuperDriver$Generaliser" 76 (my M_Row_add)) := ⟨tb4_in (i := 68) rfl, rfl⟩
theorem l_Generaliser_79 : gd (.methodLink "SuperDriver$Generaliser" 79 (my M_Signs_partsOf)) := ⟨tb4_in (i := 69) rfl, rfl⟩
theorem l_Generaliser_84 : gd (.methodLink "SuperDriver$Generaliser" 84 (my M_Generaliser_newVariable)) := ⟨tb4_in (i := 70) rfl, rfl⟩
theorem l_Generaliser_104 : gd (.methodLink "SuperDriver$Generaliser" 104 (my M_Tree_newVariable)) := ⟨tb4_in (i := 74) rfl, rfl⟩
theorem l_Generaliser_88 : gd (.methodLink "SuperDriver$Generaliser" 88 (my M_Signs_behind)) := ⟨tb4_in (i := 78) rfl, rfl⟩
theorem l_Generaliser_58 : gd (.methodLink "SuperDriver$Generaliser" 58 (my M_Generaliser_let)) := ⟨tb4_in (i := 79) rfl, rfl⟩
theorem l_Generaliser_106 : gd (.methodLink "SuperDriver$Generaliser" 106 (my M_Node_become)) := ⟨tb4_in (i := 83) rfl, rfl⟩
theorem l_Generaliser_92 : gd (.methodLink "SuperDriver$Generaliser" 92 (my M_Row_length)) := ⟨tb4_in (i := 84) rfl, rfl⟩
theorem l_Generaliser_113 : gd (.methodLink "SuperDriver$Generaliser" 113 (my M_Tree_add)) := ⟨tb4_in (i := 85) rfl, rfl⟩
theorem l_Generaliser_62 : gd (.methodLink "SuperDriver$Generaliser" 62 (my M_Generaliser_takeCommon)) := ⟨tb4_in (i := 86) rfl, rfl⟩
theorem l_Generaliser_96 : gd (.methodLink "SuperDriver$Generaliser" 96 (my M_Generaliser_metBefore)) := ⟨tb4_in (i := 90) rfl, rfl⟩
theorem l_Generaliser_100 : gd (.methodLink "SuperDriver$Generaliser" 100 (my M_Row_repeats)) := ⟨tb4_in (i := 94) rfl, rfl⟩
theorem l_Generaliser_66 : gd (.methodLink "SuperDriver$Generaliser" 66 (my M_Row_isRenamingOf)) := ⟨tb4_in (i := 98) rfl, rfl⟩
theorem l_Generaliser_70 : gd (.methodLink "SuperDriver$Generaliser" 70 (my M_Tree_removeBelow)) := ⟨tb4_in (i := 99) rfl, rfl⟩
theorem l_Tree_48 : gd (.methodLink "SuperDriver$Tree" 48 (my M_Tree_get)) := ⟨tb4_in (i := 103) rfl, rfl⟩
theorem l_Tree_52 : gd (.methodLink "SuperDriver$Tree" 52 (my M_Node_isBelow)) := ⟨tb4_in (i := 104) rfl, rfl⟩
theorem l_Tree_56 : gd (.methodLink "SuperDriver$Tree" 56 (my M_Node_become)) := ⟨tb4_in (i := 108) rfl, rfl⟩
theorem l_Tree_60 : gd (.methodLink "SuperDriver$Tree" 60 (my M_Node_dropBelow)) := ⟨tb4_in (i := 109) rfl, rfl⟩
theorem l_Driver_129 : gd (.methodLink "SuperDriver$Driver" 129 (my M_Driver_step)) := ⟨tb4_in (i := 110) rfl, rfl⟩
theorem l_Driver_158 : gd (.methodLink "SuperDriver$Driver" 158 (my M_Program_unfold)) := ⟨tb4_in (i := 114) rfl, rfl⟩
theorem sm_Program_unfold : gd (.sameMethod "SuperDriver$Program" "SuperDriver$Program" "unfold" "(LSuperDriver$Row;ILSuperDriver$Row;)V") := ⟨tb4_in (i := 116) rfl, rfl⟩
theorem l_Program_39 : gd (.methodLink "SuperDriver$Program" 39 (my M_Signs_partsOf)) := ⟨tb4_in (i := 120) rfl, rfl⟩
theorem ln_Program_42 : Cond.methodLinkNest "SuperDriver$Program" 42 (my M_SD_partsOfConstructor) "SuperDriver" ∈ lw_tbl := tb4_in (i := 121) rfl
theorem l_Program_45 : gd (.methodLink "SuperDriver$Program" 45 (my M_Substitution_begin)) := ⟨tb4_in (i := 122) rfl, rfl⟩
theorem l_Program_50 : gd (.methodLink "SuperDriver$Program" 50 (my M_Signs_behind)) := ⟨tb4_in (i := 126) rfl, rfl⟩
theorem l_Program_53 : gd (.methodLink "SuperDriver$Program" 53 ⟨"SuperDriver$Program", "variableOf", "(III)I"⟩) := ⟨tb4_in (i := 127) rfl, rfl⟩
theorem dc_Program_variableOf : Cond.declares ⟨"SuperDriver$Program", "variableOf", "(III)I"⟩ ∈ lw_tbl := tb4_in (i := 128) rfl
theorem sm_Program_variableOf : gd (.sameMethod "SuperDriver$Program" "SuperDriver$Program" "variableOf" "(III)I") := ⟨tb4_in (i := 129) rfl, rfl⟩
theorem so_ResidualProgram_variableOf : gd (.selects "SuperDriver$ResidualProgram" ⟨"SuperDriver$Program", "variableOf", "(III)I"⟩ (my M_ResidualProgram_variableOf)) := ⟨tb4_in (i := 130) rfl, rfl⟩
theorem l_ResidualProgram_60 : gd (.methodLink "SuperDriver$ResidualProgram" 60 (my M_Row_at)) := ⟨tb4_in (i := 133) rfl, rfl⟩
theorem ln_ResidualProgram_64 : Cond.methodLinkNest "SuperDriver$ResidualProgram" 64 (my M_SD_partsOfConstructor) "SuperDriver" ∈ lw_tbl := tb4_in (i := 134) rfl
theorem so_SourceProgram_variableOf : gd (.selects "SuperDriver$SourceProgram" ⟨"SuperDriver$Program", "variableOf", "(III)I"⟩ (my M_SourceProgram_variableOf)) := ⟨tb4_in (i := 135) rfl, rfl⟩
theorem l_Program_57 : gd (.methodLink "SuperDriver$Program" 57 (my M_Substitution_bind)) := ⟨tb4_in (i := 138) rfl, rfl⟩
theorem ln_Substitution_31 : Cond.methodLinkNest "SuperDriver$Substitution" 31 (my M_SD_isVariable) "SuperDriver" ∈ lw_tbl := tb4_in (i := 142) rfl
theorem l_Program_61 : gd (.methodLink "SuperDriver$Program" 61 (my M_Row_clear)) := ⟨tb4_in (i := 143) rfl, rfl⟩
theorem l_Program_64 : gd (.methodLink "SuperDriver$Program" 64 (my M_Row_addRange)) := ⟨tb4_in (i := 144) rfl, rfl⟩
theorem l_Program_68 : gd (.methodLink "SuperDriver$Program" 68 (my M_Substitution_apply)) := ⟨tb4_in (i := 145) rfl, rfl⟩
theorem l_Substitution_35 : gd (.methodLink "SuperDriver$Substitution" 35 (my M_Row_length)) := ⟨tb4_in (i := 149) rfl, rfl⟩
theorem l_Substitution_39 : gd (.methodLink "SuperDriver$Substitution" 39 (my M_Row_isTooLong)) := ⟨tb4_in (i := 150) rfl, rfl⟩
theorem l_Substitution_43 : gd (.methodLink "SuperDriver$Substitution" 43 (my M_Row_at)) := ⟨tb4_in (i := 151) rfl, rfl⟩
theorem l_Substitution_47 : gd (.methodLink "SuperDriver$Substitution" 47 (my M_Row_addRange)) := ⟨tb4_in (i := 152) rfl, rfl⟩
theorem l_Substitution_51 : gd (.methodLink "SuperDriver$Substitution" 51 (my M_Row_add)) := ⟨tb4_in (i := 153) rfl, rfl⟩
theorem l_Program_72 : gd (.methodLink "SuperDriver$Program" 72 (my M_Row_length)) := ⟨tb4_in (i := 154) rfl, rfl⟩
theorem l_Driver_133 : gd (.methodLink "SuperDriver$Driver" 133 (my M_Driver_split)) := ⟨tb4_in (i := 155) rfl, rfl⟩
theorem l_Driver_162 : gd (.methodLink "SuperDriver$Driver" 162 ⟨"SuperDriver$Program", "bodyOf", "(II)LSuperDriver$Row;"⟩) := ⟨tb4_in (i := 159) rfl, rfl⟩
theorem l_Driver_166 : gd (.methodLink "SuperDriver$Driver" 166 (my M_Driver_addClause)) := ⟨tb4_in (i := 160) rfl, rfl⟩
theorem l_Driver_170 : gd (.methodLink "SuperDriver$Driver" 170 (my M_Row_clear)) := ⟨tb4_in (i := 164) rfl, rfl⟩
theorem l_Driver_171 : gd (.methodLink "SuperDriver$Driver" 171 (my M_Row_add)) := ⟨tb4_in (i := 165) rfl, rfl⟩
theorem ln_Driver_173 : Cond.methodLinkNest "SuperDriver$Driver" 173 (my M_SD_partsOfConstructor) "SuperDriver" ∈ lw_tbl := tb4_in (i := 166) rfl
theorem l_Driver_176 : gd (.methodLink "SuperDriver$Driver" 176 (my M_Tree_newVariable)) := ⟨tb4_in (i := 167) rfl, rfl⟩
theorem l_Driver_179 : gd (.methodLink "SuperDriver$Driver" 179 (my M_Substitution_begin)) := ⟨tb4_in (i := 168) rfl, rfl⟩
theorem l_Driver_184 : gd (.methodLink "SuperDriver$Driver" 184 (my M_Substitution_bind)) := ⟨tb4_in (i := 169) rfl, rfl⟩
theorem l_Driver_188 : gd (.methodLink "SuperDriver$Driver" 188 (my M_Substitution_apply)) := ⟨tb4_in (i := 170) rfl, rfl⟩
theorem l_SD_157 : gd (.methodLink "SuperDriver" 157 (my M_Tree_isTooGreat)) := ⟨tb4_in (i := 171) rfl, rfl⟩
theorem l_SD_160 : gd (.methodLink "SuperDriver" 160 (my M_ResidualProgram_write)) := ⟨tb4_in (i := 172) rfl, rfl⟩
theorem l_ResidualProgram_27 : gd (.methodLink "SuperDriver$ResidualProgram" 27 (my M_ResidualProgram_markFunctions)) := ⟨tb4_in (i := 176) rfl, rfl⟩
theorem l_ResidualProgram_31 : gd (.methodLink "SuperDriver$ResidualProgram" 31 (my M_Tree_count)) := ⟨tb4_in (i := 180) rfl, rfl⟩
theorem l_ResidualProgram_39 : gd (.methodLink "SuperDriver$ResidualProgram" 39 (my M_ResidualProgram_writeOwnCall)) := ⟨tb4_in (i := 181) rfl, rfl⟩
theorem l_ResidualProgram_86 : gd (.methodLink "SuperDriver$ResidualProgram" 86 (my M_Row_add)) := ⟨tb4_in (i := 185) rfl, rfl⟩
theorem l_ResidualProgram_96 : gd (.methodLink "SuperDriver$ResidualProgram" 96 (my M_Row_length)) := ⟨tb4_in (i := 186) rfl, rfl⟩
theorem ln_ResidualProgram_99 : Cond.methodLinkNest "SuperDriver$ResidualProgram" 99 (my M_SD_isVariable) "SuperDriver" ∈ lw_tbl := tb4_in (i := 187) rfl
theorem l_ResidualProgram_103 : gd (.methodLink "SuperDriver$ResidualProgram" 103 (my M_Row_indexOf)) := ⟨tb4_in (i := 188) rfl, rfl⟩
theorem l_ResidualProgram_110 : gd (.methodLink "SuperDriver$ResidualProgram" 110 (my M_Signs_shape)) := ⟨tb4_in (i := 189) rfl, rfl⟩
theorem l_ResidualProgram_43 : gd (.methodLink "SuperDriver$ResidualProgram" 43 (my M_ResidualProgram_writeInline)) := ⟨tb4_in (i := 190) rfl, rfl⟩
theorem l_ResidualProgram_116 : gd (.methodLink "SuperDriver$ResidualProgram" 116 (my M_Row_copy)) := ⟨tb4_in (i := 194) rfl, rfl⟩
theorem l_ResidualProgram_120 : gd (.methodLink "SuperDriver$ResidualProgram" 120 (my M_ResidualProgram_addAllBelow)) := ⟨tb4_in (i := 195) rfl, rfl⟩
theorem l_ResidualProgram_129 : gd (.methodLink "SuperDriver$ResidualProgram" 129 (my M_Row_addRange)) := ⟨tb4_in (i := 198) rfl, rfl⟩
theorem l_ResidualProgram_123 : gd (.methodLink "SuperDriver$ResidualProgram" 123 (my M_ResidualProgram_writeFold)) := ⟨tb4_in (i := 199) rfl, rfl⟩
theorem l_ResidualProgram_126 : gd (.methodLink "SuperDriver$ResidualProgram" 126 (my M_ResidualProgram_writeLet)) := ⟨tb4_in (i := 202) rfl, rfl⟩
theorem l_ResidualProgram_137 : gd (.methodLink "SuperDriver$ResidualProgram" 137 (my M_Substitution_begin)) := ⟨tb4_in (i := 206) rfl, rfl⟩
theorem l_ResidualProgram_145 : gd (.methodLink "SuperDriver$ResidualProgram" 145 (my M_Substitution_bind)) := ⟨tb4_in (i := 207) rfl, rfl⟩
theorem l_ResidualProgram_149 : gd (.methodLink "SuperDriver$ResidualProgram" 149 (my M_Substitution_apply)) := ⟨tb4_in (i := 208) rfl, rfl⟩
theorem l_ResidualProgram_46 : gd (.methodLink "SuperDriver$ResidualProgram" 46 (my M_Row_isTooLong)) := ⟨tb4_in (i := 209) rfl, rfl⟩
theorem l_SD_167 : gd (.methodLink "SuperDriver" 167 ⟨"java/lang/UnsupportedOperationException", "<init>", "(Ljava/lang/String;)V"⟩) := ⟨tb4_in (i := 220) rfl, rfl⟩
theorem l_Law_92 : gd (.methodLink "SuperDriverLaw" 92 (my M_Law_run)) := ⟨tb4_in (i := 226) rfl, rfl⟩
theorem l_Law_30 : gd (.methodLink "SuperDriverLaw" 30 (my M_SD_run)) := ⟨tb4_in (i := 229) rfl, rfl⟩
theorem l_SD_203 : gd (.methodLink "SuperDriver" 203 (my M_ResidualProgram_start)) := ⟨tb4_in (i := 234) rfl, rfl⟩
theorem l_SD_207 : gd (.methodLink "SuperDriver" 207 (my M_SD_allInputsAreThere)) := ⟨tb4_in (i := 238) rfl, rfl⟩
theorem l_SD_212 : gd (.methodLink "SuperDriver" 212 (my M_Runner_begin)) := ⟨tb5_in (i := 3) rfl, rfl⟩
theorem l_Runner_38 : gd (.methodLink "SuperDriver$Runner" 38 (my M_Substitution_begin)) := ⟨tb5_in (i := 7) rfl, rfl⟩
theorem l_Runner_47 : gd (.methodLink "SuperDriver$Runner" 47 (my M_Substitution_bind)) := ⟨tb5_in (i := 8) rfl, rfl⟩
theorem l_Runner_51 : gd (.methodLink "SuperDriver$Runner" 51 (my M_Row_clear)) := ⟨tb5_in (i := 9) rfl, rfl⟩
theorem l_Runner_54 : gd (.methodLink "SuperDriver$Runner" 54 (my M_Substitution_apply)) := ⟨tb5_in (i := 10) rfl, rfl⟩
theorem l_SD_215 : gd (.methodLink "SuperDriver" 215 (my M_Runner_go)) := ⟨tb5_in (i := 11) rfl, rfl⟩
theorem l_Runner_58 : gd (.methodLink "SuperDriver$Runner" 58 (my M_Signs_nextCall)) := ⟨tb5_in (i := 15) rfl, rfl⟩
theorem l_Runner_64 : gd (.methodLink "SuperDriver$Runner" 64 (my M_Runner_judge)) := ⟨tb5_in (i := 16) rfl, rfl⟩
theorem l_Runner_82 : gd (.methodLink "SuperDriver$Runner" 82 (my M_Row_isTooLong)) := ⟨tb5_in (i := 20) rfl, rfl⟩
theorem l_Runner_86 : gd (.methodLink "SuperDriver$Runner" 86 (my M_Program_unfolds)) := ⟨tb5_in (i := 21) rfl, rfl⟩
theorem l_Runner_68 : gd (.methodLink "SuperDriver$Runner" 68 (my M_Program_unfold)) := ⟨tb5_in (i := 22) rfl, rfl⟩
theorem cl_Law_35 : gd (.classLink "SuperDriverLaw" 35 "SuperDriverModel") := ⟨tb5_in (i := 23) rfl, rfl⟩
theorem ins_Mo : gd (.instantiable "SuperDriverModel" 47) := ⟨tb5_in (i := 24) rfl, rfl⟩
theorem l_Law_37 : gd (.methodLink "SuperDriverLaw" 37 (my M_Mo_init)) := ⟨tb5_in (i := 25) rfl, rfl⟩
theorem l_Mo_1 : gd (.methodLink "SuperDriverModel" 1 ⟨"java/lang/Object", "<init>", "()V"⟩) := ⟨tb5_in (i := 28) rfl, rfl⟩
theorem l_Law_59 : gd (.methodLink "SuperDriverLaw" 59 (my M_Mo_thrown)) := ⟨tb5_in (i := 171) rfl, rfl⟩
theorem l_Law_44 : gd (.methodLink "SuperDriverLaw" 44 (my M_Mo_type)) := ⟨tb5_in (i := 175) rfl, rfl⟩
theorem l_Mo_132 : gd (.methodLink "SuperDriverModel" 132 (my M_Mo_signOf)) := ⟨tb5_in (i := 180) rfl, rfl⟩
theorem l_Law_48 : gd (.methodLink "SuperDriverLaw" 48 (my M_Mo_wipe)) := ⟨tb5_in (i := 183) rfl, rfl⟩
theorem l_Law_52 : gd (.methodLink "SuperDriverLaw" 52 (my M_Mo_forget)) := ⟨tb5_in (i := 187) rfl, rfl⟩
theorem l_Law_58 : gd (.methodLink "SuperDriverLaw" 58 (my M_Mo_function)) := ⟨tb5_in (i := 191) rfl, rfl⟩
theorem l_Mo_145 : gd (.methodLink "SuperDriverModel" 145 (my M_Mo_throwing)) := ⟨tb5_in (i := 195) rfl, rfl⟩
theorem l_Law_65 : gd (.methodLink "SuperDriverLaw" 65 (my M_Mo_body)) := ⟨tb5_in (i := 199) rfl, rfl⟩
theorem l_Mo_120 : gd (.methodLink "SuperDriverModel" 120 (my M_Mo_builtOf)) := ⟨tb5_in (i := 203) rfl, rfl⟩
theorem l_Mo_149 : gd (.methodLink "SuperDriverModel" 149 (my M_Mo_isTerm)) := ⟨tb5_in (i := 206) rfl, rfl⟩
theorem l_Mo_124 : gd (.methodLink "SuperDriverModel" 124 (my M_Mo_partsOf)) := ⟨tb5_in (i := 210) rfl, rfl⟩
theorem l_Mo_153 : gd (.methodLink "SuperDriverModel" 153 (my M_Mo_takeText)) := ⟨tb5_in (i := 214) rfl, rfl⟩
theorem l_Law_69 : gd (.methodLink "SuperDriverLaw" 69 (my M_Mo_goal)) := ⟨tb5_in (i := 218) rfl, rfl⟩
theorem l_Law_74 : gd (.methodLink "SuperDriverLaw" 74 (my M_Mo_input)) := ⟨tb5_in (i := 222) rfl, rfl⟩
theorem l_Law_78 : gd (.methodLink "SuperDriverLaw" 78 (my M_Mo_drive)) := ⟨tb5_in (i := 226) rfl, rfl⟩
theorem l_Mo_205 : gd (.methodLink "SuperDriverModel" 205 (my M_Mo_add)) := ⟨tb5_in (i := 230) rfl, rfl⟩
theorem l_Mo_257 : gd (.methodLink "SuperDriverModel" 257 (my M_Mo_turn)) := ⟨tb5_in (i := 234) rfl, rfl⟩
theorem l_Mo_201 : gd (.methodLink "SuperDriverModel" 201 (my M_Mo_becomes)) := ⟨tb5_in (i := 238) rfl, rfl⟩
theorem l_Mo_237 : gd (.methodLink "SuperDriverModel" 237 (my M_Mo_build)) := ⟨tb6_in (i := 2) rfl, rfl⟩
theorem l_Mo_164 : gd (.methodLink "SuperDriverModel" 164 (my M_Mo_end)) := ⟨tb6_in (i := 6) rfl, rfl⟩
theorem l_Mo_240 : gd (.methodLink "SuperDriverModel" 240 (my M_Mo_load)) := ⟨tb6_in (i := 10) rfl, rfl⟩
theorem l_Mo_243 : gd (.methodLink "SuperDriverModel" 243 (my M_Mo_nextCall)) := ⟨tb6_in (i := 14) rfl, rfl⟩
theorem l_Mo_160 : gd (.methodLink "SuperDriverModel" 160 (my M_Mo_isCased)) := ⟨tb6_in (i := 18) rfl, rfl⟩
theorem l_Mo_171 : gd (.methodLink "SuperDriverModel" 171 (my M_Mo_bodyOf)) := ⟨tb6_in (i := 22) rfl, rfl⟩
theorem l_Mo_247 : gd (.methodLink "SuperDriverModel" 247 (my M_Mo_rival)) := ⟨tb6_in (i := 26) rfl, rfl⟩
theorem l_Mo_194 : gd (.methodLink "SuperDriverModel" 194 (my M_Mo_isEmbedded)) := ⟨tb6_in (i := 30) rfl, rfl⟩
theorem l_Mo_190 : gd (.methodLink "SuperDriverModel" 190 (my M_Mo_areParts)) := ⟨tb6_in (i := 34) rfl, rfl⟩
theorem l_Mo_198 : gd (.methodLink "SuperDriverModel" 198 (my M_Mo_isRenaming)) := ⟨tb6_in (i := 38) rfl, rfl⟩
theorem l_Mo_186 : gd (.methodLink "SuperDriverModel" 186 (my M_Mo_renames)) := ⟨tb6_in (i := 42) rfl, rfl⟩
theorem l_Mo_251 : gd (.methodLink "SuperDriverModel" 251 (my M_Mo_generalise)) := ⟨tb6_in (i := 46) rfl, rfl⟩
theorem l_Mo_209 : gd (.methodLink "SuperDriverModel" 209 (my M_Mo_renew)) := ⟨tb6_in (i := 50) rfl, rfl⟩
theorem l_Mo_226 : gd (.methodLink "SuperDriverModel" 226 (my M_Mo_differ)) := ⟨tb6_in (i := 54) rfl, rfl⟩
theorem l_Mo_219 : gd (.methodLink "SuperDriverModel" 219 (my M_Mo_alike)) := ⟨tb6_in (i := 58) rfl, rfl⟩
theorem l_Mo_230 : gd (.methodLink "SuperDriverModel" 230 (my M_Mo_goBelow)) := ⟨tb6_in (i := 62) rfl, rfl⟩
theorem l_Mo_233 : gd (.methodLink "SuperDriverModel" 233 (my M_Mo_let)) := ⟨tb6_in (i := 66) rfl, rfl⟩
theorem l_Mo_212 : gd (.methodLink "SuperDriverModel" 212 (my M_Mo_unfold)) := ⟨tb6_in (i := 70) rfl, rfl⟩
theorem l_Mo_174 : gd (.methodLink "SuperDriverModel" 174 (my M_Mo_bind)) := ⟨tb6_in (i := 74) rfl, rfl⟩
theorem l_Mo_167 : gd (.methodLink "SuperDriverModel" 167 (my M_Mo_stand)) := ⟨tb6_in (i := 78) rfl, rfl⟩
theorem l_Mo_254 : gd (.methodLink "SuperDriverModel" 254 (my M_Mo_split)) := ⟨tb6_in (i := 82) rfl, rfl⟩
theorem l_Mo_260 : gd (.methodLink "SuperDriverModel" 260 (my M_Mo_lowestOpen)) := ⟨tb6_in (i := 86) rfl, rfl⟩
theorem l_Mo_263 : gd (.methodLink "SuperDriverModel" 263 (my M_Mo_findFunctions)) := ⟨tb6_in (i := 90) rfl, rfl⟩
theorem l_Mo_269 : gd (.methodLink "SuperDriverModel" 269 (my M_Mo_hold)) := ⟨tb6_in (i := 94) rfl, rfl⟩
theorem l_Mo_266 : gd (.methodLink "SuperDriverModel" 266 (my M_Mo_write)) := ⟨tb6_in (i := 98) rfl, rfl⟩
theorem l_Mo_275 : gd (.methodLink "SuperDriverModel" 275 (my M_Mo_putCall)) := ⟨tb6_in (i := 102) rfl, rfl⟩
theorem l_Mo_272 : gd (.methodLink "SuperDriverModel" 272 (my M_Mo_put)) := ⟨tb6_in (i := 106) rfl, rfl⟩
theorem l_Mo_278 : gd (.methodLink "SuperDriverModel" 278 (my M_Mo_putResidual)) := ⟨tb6_in (i := 110) rfl, rfl⟩
theorem l_Law_83 : gd (.methodLink "SuperDriverLaw" 83 (my M_Mo_node)) := ⟨tb6_in (i := 114) rfl, rfl⟩
theorem l_Mo_281 : gd (.methodLink "SuperDriverModel" 281 (my M_Mo_isNode)) := ⟨tb6_in (i := 118) rfl, rfl⟩
theorem l_Law_87 : gd (.methodLink "SuperDriverLaw" 87 (my M_Mo_term)) := ⟨tb6_in (i := 122) rfl, rfl⟩
theorem l_Law_91 : gd (.methodLink "SuperDriverLaw" 91 (my M_Mo_residual)) := ⟨tb6_in (i := 126) rfl, rfl⟩
theorem l_Law_95 : gd (.methodLink "SuperDriverLaw" 95 (my M_Mo_run)) := ⟨tb6_in (i := 130) rfl, rfl⟩
theorem l_Mo_284 : gd (.methodLink "SuperDriverModel" 284 (my M_Mo_hasInputs)) := ⟨tb6_in (i := 134) rfl, rfl⟩
theorem l_Mo_288 : gd (.methodLink "SuperDriverModel" 288 (my M_Mo_begin)) := ⟨tb6_in (i := 138) rfl, rfl⟩
theorem l_Law_100 : gd (.methodLink "SuperDriverLaw" 100 (my M_Mo_result)) := ⟨tb6_in (i := 142) rfl, rfl⟩
theorem l_Law_104 : gd (.methodLink "SuperDriverLaw" 104 (my M_Mo_steps)) := ⟨tb6_in (i := 146) rfl, rfl⟩
theorem sm_Program_constructorAskedFor : gd (.sameMethod "SuperDriver$Program" "SuperDriver$Program" "constructorAskedFor" "(LSuperDriver$Row;I)I") := ⟨tb6_in (i := 152) rfl, rfl⟩
theorem v_objInit : gd (.instanceMethod Lib.objectInit) := ⟨tb1_in (i := 28) rfl, rfl⟩
theorem k_objInit : gd (.code Lib.objectInit ⟨#[0xb1]⟩ 1 none) := ⟨tb1_in (i := 29) rfl, rfl⟩
theorem z_mmax : gd (.static Lib.Math.max.name) := ⟨tb1_in (i := 37) rfl, rfl⟩
theorem k_mmax : gd (.code Lib.Math.max.name Lib.Math.max.code 2 (some .int)) := ⟨tb1_in (i := 38) rfl, rfl⟩
theorem z_mmin : gd (.static Lib.Math.min.name) := ⟨tb2_in (i := 199) rfl, rfl⟩
theorem k_mmin : gd (.code Lib.Math.min.name Lib.Math.min.code 2 (some .int)) := ⟨tb2_in (i := 200) rfl, rfl⟩
theorem z_copy : gd (.static arraycopyName) := ⟨tb2_in (i := 202) rfl, rfl⟩
theorem nt_copy : gd (.native arraycopyName) := ⟨tb2_in (i := 203) rfl, rfl⟩
theorem w_SD_init_14 : FW "SuperDriver" "<init>" 14 0 0 := ⟨_, _, _, "SuperDriver", kc_SD, by decide, Or.inr ⟨rfl, rfl, rfl, tb2_in (i := 87) rfl, rfl⟩, Or.inl rfl⟩
theorem w_SD_init_18 : FW "SuperDriver" "<init>" 18 0 1 := ⟨_, _, _, "SuperDriver", kc_SD, by decide, Or.inr ⟨rfl, rfl, rfl, tb2_in (i := 88) rfl, rfl⟩, Or.inl rfl⟩
theorem w_SD_init_21 : FW "SuperDriver" "<init>" 21 0 2 := ⟨_, _, _, "SuperDriver", kc_SD, by decide, Or.inr ⟨rfl, rfl, rfl, tb2_in (i := 89) rfl, rfl⟩, Or.inl rfl⟩
theorem f_SD_21 : FR "SuperDriver" 21 0 2 := ⟨_, _, _, "SuperDriver", kc_SD, by decide, Or.inl ⟨tb2_in (i := 89) rfl, rfl⟩, Or.inl rfl⟩
theorem w_SD_init_31 : FW "SuperDriver" "<init>" 31 0 3 := ⟨_, _, _, "SuperDriver", kc_SD, by decide, Or.inr ⟨rfl, rfl, rfl, tb2_in (i := 90) rfl, rfl⟩, Or.inl rfl⟩
theorem f_SD_31 : FR "SuperDriver" 31 0 3 := ⟨_, _, _, "SuperDriver", kc_SD, by decide, Or.inl ⟨tb2_in (i := 90) rfl, rfl⟩, Or.inl rfl⟩
theorem w_SD_init_40 : FW "SuperDriver" "<init>" 40 0 4 := ⟨_, _, _, "SuperDriver", kc_SD, by decide, Or.inr ⟨rfl, rfl, rfl, tb2_in (i := 91) rfl, rfl⟩, Or.inl rfl⟩
theorem w_SD_init_47 : FW "SuperDriver" "<init>" 47 0 5 := ⟨_, _, _, "SuperDriver", kc_SD, by decide, Or.inr ⟨rfl, rfl, rfl, tb2_in (i := 92) rfl, rfl⟩, Or.inl rfl⟩
theorem f_SD_40 : FR "SuperDriver" 40 0 4 := ⟨_, _, _, "SuperDriver", kc_SD, by decide, Or.inl ⟨tb2_in (i := 91) rfl, rfl⟩, Or.inl rfl⟩
theorem f_SD_47 : FR "SuperDriver" 47 0 5 := ⟨_, _, _, "SuperDriver", kc_SD, by decide, Or.inl ⟨tb2_in (i := 92) rfl, rfl⟩, Or.inl rfl⟩
theorem w_SD_init_56 : FW "SuperDriver" "<init>" 56 0 6 := ⟨_, _, _, "SuperDriver", kc_SD, by decide, Or.inr ⟨rfl, rfl, rfl, tb2_in (i := 93) rfl, rfl⟩, Or.inl rfl⟩
theorem w_SD_init_65 : FW "SuperDriver" "<init>" 65 0 7 := ⟨_, _, _, "SuperDriver", kc_SD, by decide, Or.inr ⟨rfl, rfl, rfl, tb2_in (i := 94) rfl, rfl⟩, Or.inl rfl⟩
theorem w_SD_init_72 : FW "SuperDriver" "<init>" 72 0 8 := ⟨_, _, _, "SuperDriver", kc_SD, by decide, Or.inr ⟨rfl, rfl, rfl, tb2_in (i := 95) rfl, rfl⟩, Or.inl rfl⟩
theorem f_SD_18 : FR "SuperDriver" 18 0 1 := ⟨_, _, _, "SuperDriver", kc_SD, by decide, Or.inl ⟨tb2_in (i := 88) rfl, rfl⟩, Or.inl rfl⟩
theorem f_SD_14 : FR "SuperDriver" 14 0 0 := ⟨_, _, _, "SuperDriver", kc_SD, by decide, Or.inl ⟨tb2_in (i := 87) rfl, rfl⟩, Or.inl rfl⟩
theorem f_SD_56 : FR "SuperDriver" 56 0 6 := ⟨_, _, _, "SuperDriver", kc_SD, by decide, Or.inl ⟨tb2_in (i := 93) rfl, rfl⟩, Or.inl rfl⟩
theorem f_SD_65 : FR "SuperDriver" 65 0 7 := ⟨_, _, _, "SuperDriver", kc_SD, by decide, Or.inl ⟨tb2_in (i := 94) rfl, rfl⟩, Or.inl rfl⟩
theorem f_SD_72 : FR "SuperDriver" 72 0 8 := ⟨_, _, _, "SuperDriver", kc_SD, by decide, Or.inl ⟨tb2_in (i := 95) rfl, rfl⟩, Or.inl rfl⟩
theorem f_SD_172 : FR "SuperDriver" 172 6 7 := ⟨_, _, _, "SuperDriver$Node", kc_Node, by decide, Or.inr ⟨"SuperDriver", tb1_in (i := 165) rfl⟩, Or.inl rfl⟩
theorem f_SD_178 : FR "SuperDriver" 178 6 3 := ⟨_, _, _, "SuperDriver$Node", kc_Node, by decide, Or.inr ⟨"SuperDriver", tb1_in (i := 156) rfl⟩, Or.inl rfl⟩
theorem f_SD_182 : FR "SuperDriver" 182 6 0 := ⟨_, _, _, "SuperDriver$Node", kc_Node, by decide, Or.inr ⟨"SuperDriver", tb1_in (i := 145) rfl⟩, Or.inl rfl⟩
theorem f_SD_185 : FR "SuperDriver" 185 6 8 := ⟨_, _, _, "SuperDriver$Node", kc_Node, by decide, Or.inr ⟨"SuperDriver", tb1_in (i := 168) rfl⟩, Or.inl rfl⟩
theorem f_SD_188 : FR "SuperDriver" 188 6 10 := ⟨_, _, _, "SuperDriver$Node", kc_Node, by decide, Or.inr ⟨"SuperDriver", tb1_in (i := 173) rfl⟩, Or.inl rfl⟩
theorem f_SD_198 : FR "SuperDriver" 198 6 2 := ⟨_, _, _, "SuperDriver$Node", kc_Node, by decide, Or.inr ⟨"SuperDriver", tb1_in (i := 153) rfl⟩, Or.inl rfl⟩
theorem f_SD_192 : FR "SuperDriver" 192 6 1 := ⟨_, _, _, "SuperDriver$Node", kc_Node, by decide, Or.inr ⟨"SuperDriver", tb1_in (i := 150) rfl⟩, Or.inl rfl⟩
theorem w_Driver_init_14 : FW "SuperDriver$Driver" "<init>" 14 7 5 := ⟨_, _, _, "SuperDriver$Driver", kc_Driver, by decide, Or.inr ⟨rfl, rfl, rfl, tb2_in (i := 28) rfl, rfl⟩, Or.inl rfl⟩
theorem w_Driver_init_20 : FW "SuperDriver$Driver" "<init>" 20 7 6 := ⟨_, _, _, "SuperDriver$Driver", kc_Driver, by decide, Or.inr ⟨rfl, rfl, rfl, tb2_in (i := 29) rfl, rfl⟩, Or.inl rfl⟩
theorem w_Driver_init_23 : FW "SuperDriver$Driver" "<init>" 23 7 7 := ⟨_, _, _, "SuperDriver$Driver", kc_Driver, by decide, Or.inr ⟨rfl, rfl, rfl, tb2_in (i := 30) rfl, rfl⟩, Or.inl rfl⟩
theorem w_Driver_init_26 : FW "SuperDriver$Driver" "<init>" 26 7 0 := ⟨_, _, _, "SuperDriver$Driver", kc_Driver, by decide, Or.inr ⟨rfl, rfl, rfl, tb2_in (i := 23) rfl, rfl⟩, Or.inl rfl⟩
theorem w_Driver_init_30 : FW "SuperDriver$Driver" "<init>" 30 7 1 := ⟨_, _, _, "SuperDriver$Driver", kc_Driver, by decide, Or.inr ⟨rfl, rfl, rfl, tb2_in (i := 24) rfl, rfl⟩, Or.inl rfl⟩
theorem w_Driver_init_34 : FW "SuperDriver$Driver" "<init>" 34 7 2 := ⟨_, _, _, "SuperDriver$Driver", kc_Driver, by decide, Or.inr ⟨rfl, rfl, rfl, tb2_in (i := 25) rfl, rfl⟩, Or.inl rfl⟩
theorem w_Driver_init_38 : FW "SuperDriver$Driver" "<init>" 38 7 3 := ⟨_, _, _, "SuperDriver$Driver", kc_Driver, by decide, Or.inr ⟨rfl, rfl, rfl, tb2_in (i := 26) rfl, rfl⟩, Or.inl rfl⟩
theorem w_Driver_init_47 : FW "SuperDriver$Driver" "<init>" 47 7 4 := ⟨_, _, _, "SuperDriver$Driver", kc_Driver, by decide, Or.inr ⟨rfl, rfl, rfl, tb2_in (i := 27) rfl, rfl⟩, Or.inl rfl⟩
theorem f_Driver_23 : FR "SuperDriver$Driver" 23 7 7 := ⟨_, _, _, "SuperDriver$Driver", kc_Driver, by decide, Or.inl ⟨tb2_in (i := 30) rfl, rfl⟩, Or.inl rfl⟩
theorem f_Driver_34 : FR "SuperDriver$Driver" 34 7 2 := ⟨_, _, _, "SuperDriver$Driver", kc_Driver, by decide, Or.inl ⟨tb2_in (i := 25) rfl, rfl⟩, Or.inl rfl⟩
theorem f_Driver_38 : FR "SuperDriver$Driver" 38 7 3 := ⟨_, _, _, "SuperDriver$Driver", kc_Driver, by decide, Or.inl ⟨tb2_in (i := 26) rfl, rfl⟩, Or.inl rfl⟩
theorem f_Driver_20 : FR "SuperDriver$Driver" 20 7 6 := ⟨_, _, _, "SuperDriver$Driver", kc_Driver, by decide, Or.inl ⟨tb2_in (i := 29) rfl, rfl⟩, Or.inl rfl⟩
theorem f_Driver_78 : FR "SuperDriver$Driver" 78 6 1 := ⟨_, _, _, "SuperDriver$Node", kc_Node, by decide, Or.inr ⟨"SuperDriver", tb1_in (i := 148) rfl⟩, Or.inl rfl⟩
theorem f_Driver_30 : FR "SuperDriver$Driver" 30 7 1 := ⟨_, _, _, "SuperDriver$Driver", kc_Driver, by decide, Or.inl ⟨tb2_in (i := 24) rfl, rfl⟩, Or.inl rfl⟩
theorem f_Driver_14 : FR "SuperDriver$Driver" 14 7 5 := ⟨_, _, _, "SuperDriver$Driver", kc_Driver, by decide, Or.inl ⟨tb2_in (i := 28) rfl, rfl⟩, Or.inl rfl⟩
theorem w_Driver_m_192 (y : String) : FW "SuperDriver$Driver" y 192 6 11 := ⟨_, _, _, "SuperDriver$Node", kc_Node, by decide, Or.inl ⟨rfl, Or.inr ⟨"SuperDriver", tb1_in (i := 176) rfl⟩⟩, Or.inl rfl⟩
theorem w_Driver_m_195 (y : String) : FW "SuperDriver$Driver" y 195 6 12 := ⟨_, _, _, "SuperDriver$Node", kc_Node, by decide, Or.inl ⟨rfl, Or.inr ⟨"SuperDriver", tb1_in (i := 179) rfl⟩⟩, Or.inl rfl⟩
theorem f_Driver_26 : FR "SuperDriver$Driver" 26 7 0 := ⟨_, _, _, "SuperDriver$Driver", kc_Driver, by decide, Or.inl ⟨tb2_in (i := 23) rfl, rfl⟩, Or.inl rfl⟩
theorem f_Driver_154 : FR "SuperDriver$Driver" 154 6 3 := ⟨_, _, _, "SuperDriver$Node", kc_Node, by decide, Or.inr ⟨"SuperDriver", tb1_in (i := 155) rfl⟩, Or.inl rfl⟩
theorem f_Driver_68 : FR "SuperDriver$Driver" 68 6 7 := ⟨_, _, _, "SuperDriver$Node", kc_Node, by decide, Or.inr ⟨"SuperDriver", tb1_in (i := 163) rfl⟩, Or.inl rfl⟩
theorem f_Driver_47 : FR "SuperDriver$Driver" 47 7 4 := ⟨_, _, _, "SuperDriver$Driver", kc_Driver, by decide, Or.inl ⟨tb2_in (i := 27) rfl, rfl⟩, Or.inl rfl⟩
theorem w_Generaliser_init_14 : FW "SuperDriver$Generaliser" "<init>" 14 8 2 := ⟨_, _, _, "SuperDriver$Generaliser", kc_Generaliser, by decide, Or.inr ⟨rfl, rfl, rfl, tb2_in (i := 3) rfl, rfl⟩, Or.inl rfl⟩
theorem w_Generaliser_init_20 : FW "SuperDriver$Generaliser" "<init>" 20 8 3 := ⟨_, _, _, "SuperDriver$Generaliser", kc_Generaliser, by decide, Or.inr ⟨rfl, rfl, rfl, tb2_in (i := 4) rfl, rfl⟩, Or.inl rfl⟩
theorem w_Generaliser_init_24 : FW "SuperDriver$Generaliser" "<init>" 24 8 4 := ⟨_, _, _, "SuperDriver$Generaliser", kc_Generaliser, by decide, Or.inr ⟨rfl, rfl, rfl, tb2_in (i := 5) rfl, rfl⟩, Or.inl rfl⟩
theorem w_Generaliser_init_27 (y : String) : FW "SuperDriver$Generaliser" y 27 8 5 := ⟨_, _, _, "SuperDriver$Generaliser", kc_Generaliser, by decide, Or.inl ⟨rfl, Or.inl ⟨tb2_in (i := 6) rfl, rfl⟩⟩, Or.inl rfl⟩
theorem w_Generaliser_init_31 (y : String) : FW "SuperDriver$Generaliser" y 31 8 6 := ⟨_, _, _, "SuperDriver$Generaliser", kc_Generaliser, by decide, Or.inl ⟨rfl, Or.inl ⟨tb2_in (i := 7) rfl, rfl⟩⟩, Or.inl rfl⟩
theorem w_Generaliser_init_34 : FW "SuperDriver$Generaliser" "<init>" 34 8 0 := ⟨_, _, _, "SuperDriver$Generaliser", kc_Generaliser, by decide, Or.inr ⟨rfl, rfl, rfl, tb2_in (i := 1) rfl, rfl⟩, Or.inl rfl⟩
theorem w_Generaliser_init_38 : FW "SuperDriver$Generaliser" "<init>" 38 8 1 := ⟨_, _, _, "SuperDriver$Generaliser", kc_Generaliser, by decide, Or.inr ⟨rfl, rfl, rfl, tb2_in (i := 2) rfl, rfl⟩, Or.inl rfl⟩
theorem f_Generaliser_14 : FR "SuperDriver$Generaliser" 14 8 2 := ⟨_, _, _, "SuperDriver$Generaliser", kc_Generaliser, by decide, Or.inl ⟨tb2_in (i := 3) rfl, rfl⟩, Or.inl rfl⟩
theorem w_Generaliser_m_27 (y : String) : FW "SuperDriver$Generaliser" y 27 8 5 := ⟨_, _, _, "SuperDriver$Generaliser", kc_Generaliser, by decide, Or.inl ⟨rfl, Or.inl ⟨tb2_in (i := 6) rfl, rfl⟩⟩, Or.inl rfl⟩
theorem f_Generaliser_45 : FR "SuperDriver$Generaliser" 45 6 1 := ⟨_, _, _, "SuperDriver$Node", kc_Node, by decide, Or.inr ⟨"SuperDriver", tb1_in (i := 147) rfl⟩, Or.inl rfl⟩
theorem f_Generaliser_24 : FR "SuperDriver$Generaliser" 24 8 4 := ⟨_, _, _, "SuperDriver$Generaliser", kc_Generaliser, by decide, Or.inl ⟨tb2_in (i := 5) rfl, rfl⟩, Or.inl rfl⟩
theorem f_Generaliser_38 : FR "SuperDriver$Generaliser" 38 8 1 := ⟨_, _, _, "SuperDriver$Generaliser", kc_Generaliser, by decide, Or.inl ⟨tb2_in (i := 2) rfl, rfl⟩, Or.inl rfl⟩
theorem f_Generaliser_20 : FR "SuperDriver$Generaliser" 20 8 3 := ⟨_, _, _, "SuperDriver$Generaliser", kc_Generaliser, by decide, Or.inl ⟨tb2_in (i := 4) rfl, rfl⟩, Or.inl rfl⟩
theorem f_Generaliser_27 : FR "SuperDriver$Generaliser" 27 8 5 := ⟨_, _, _, "SuperDriver$Generaliser", kc_Generaliser, by decide, Or.inl ⟨tb2_in (i := 6) rfl, rfl⟩, Or.inl rfl⟩
theorem f_Generaliser_31 : FR "SuperDriver$Generaliser" 31 8 6 := ⟨_, _, _, "SuperDriver$Generaliser", kc_Generaliser, by decide, Or.inl ⟨tb2_in (i := 7) rfl, rfl⟩, Or.inl rfl⟩
theorem w_Generaliser_m_110 (y : String) : FW "SuperDriver$Generaliser" y 110 6 13 := ⟨_, _, _, "SuperDriver$Node", kc_Node, by decide, Or.inl ⟨rfl, Or.inr ⟨"SuperDriver", tb1_in (i := 181) rfl⟩⟩, Or.inl rfl⟩
theorem f_Generaliser_34 : FR "SuperDriver$Generaliser" 34 8 0 := ⟨_, _, _, "SuperDriver$Generaliser", kc_Generaliser, by decide, Or.inl ⟨tb2_in (i := 1) rfl, rfl⟩, Or.inl rfl⟩
theorem w_Generaliser_m_31 (y : String) : FW "SuperDriver$Generaliser" y 31 8 6 := ⟨_, _, _, "SuperDriver$Generaliser", kc_Generaliser, by decide, Or.inl ⟨rfl, Or.inl ⟨tb2_in (i := 7) rfl, rfl⟩⟩, Or.inl rfl⟩
theorem w_Node_init_14 : FW "SuperDriver$Node" "<init>" 14 6 1 := ⟨_, _, _, "SuperDriver$Node", kc_Node, by decide, Or.inr ⟨rfl, rfl, rfl, tb1_in (i := 146) rfl, rfl⟩, Or.inl rfl⟩
theorem w_Node_init_20 : FW "SuperDriver$Node" "<init>" 20 6 2 := ⟨_, _, _, "SuperDriver$Node", kc_Node, by decide, Or.inr ⟨rfl, rfl, rfl, tb1_in (i := 151) rfl, rfl⟩, Or.inl rfl⟩
theorem w_Node_init_23 : FW "SuperDriver$Node" "<init>" 23 6 0 := ⟨_, _, _, "SuperDriver$Node", kc_Node, by decide, Or.inr ⟨rfl, rfl, rfl, tb1_in (i := 142) rfl, rfl⟩, Or.inl rfl⟩
theorem w_Node_m_57 (y : String) : FW "SuperDriver$Node" y 57 6 7 := ⟨_, _, _, "SuperDriver$Node", kc_Node, by decide, Or.inl ⟨rfl, Or.inl ⟨tb1_in (i := 162) rfl, rfl⟩⟩, Or.inl rfl⟩
theorem w_Node_m_60 (y : String) : FW "SuperDriver$Node" y 60 6 8 := ⟨_, _, _, "SuperDriver$Node", kc_Node, by decide, Or.inl ⟨rfl, Or.inl ⟨tb1_in (i := 166) rfl, rfl⟩⟩, Or.inl rfl⟩
theorem w_Node_m_63 (y : String) : FW "SuperDriver$Node" y 63 6 9 := ⟨_, _, _, "SuperDriver$Node", kc_Node, by decide, Or.inl ⟨rfl, Or.inl ⟨tb1_in (i := 169) rfl, rfl⟩⟩, Or.inl rfl⟩
theorem w_Node_m_66 (y : String) : FW "SuperDriver$Node" y 66 6 10 := ⟨_, _, _, "SuperDriver$Node", kc_Node, by decide, Or.inl ⟨rfl, Or.inl ⟨tb1_in (i := 171) rfl, rfl⟩⟩, Or.inl rfl⟩
theorem w_Node_m_73 (y : String) : FW "SuperDriver$Node" y 73 6 4 := ⟨_, _, _, "SuperDriver$Node", kc_Node, by decide, Or.inl ⟨rfl, Or.inl ⟨tb1_in (i := 158) rfl, rfl⟩⟩, Or.inl rfl⟩
theorem w_Node_m_70 (y : String) : FW "SuperDriver$Node" y 70 6 5 := ⟨_, _, _, "SuperDriver$Node", kc_Node, by decide, Or.inl ⟨rfl, Or.inl ⟨tb1_in (i := 159) rfl, rfl⟩⟩, Or.inl rfl⟩
theorem f_Node_23 : FR "SuperDriver$Node" 23 6 0 := ⟨_, _, _, "SuperDriver$Node", kc_Node, by decide, Or.inl ⟨tb1_in (i := 142) rfl, rfl⟩, Or.inl rfl⟩
theorem f_Node_34 : FR "SuperDriver$Node" 34 6 3 := ⟨_, _, _, "SuperDriver$Node", kc_Node, by decide, Or.inl ⟨tb1_in (i := 154) rfl, rfl⟩, Or.inl rfl⟩
theorem f_Node_14 : FR "SuperDriver$Node" 14 6 1 := ⟨_, _, _, "SuperDriver$Node", kc_Node, by decide, Or.inl ⟨tb1_in (i := 146) rfl, rfl⟩, Or.inl rfl⟩
theorem f_Node_20 : FR "SuperDriver$Node" 20 6 2 := ⟨_, _, _, "SuperDriver$Node", kc_Node, by decide, Or.inl ⟨tb1_in (i := 151) rfl, rfl⟩, Or.inl rfl⟩
theorem w_Node_m_34 (y : String) : FW "SuperDriver$Node" y 34 6 3 := ⟨_, _, _, "SuperDriver$Node", kc_Node, by decide, Or.inl ⟨rfl, Or.inl ⟨tb1_in (i := 154) rfl, rfl⟩⟩, Or.inl rfl⟩
theorem w_Node_m_38 (y : String) : FW "SuperDriver$Node" y 38 6 6 := ⟨_, _, _, "SuperDriver$Node", kc_Node, by decide, Or.inl ⟨rfl, Or.inl ⟨tb1_in (i := 160) rfl, rfl⟩⟩, Or.inl rfl⟩
theorem w_Node_m_44 (y : String) : FW "SuperDriver$Node" y 44 6 11 := ⟨_, _, _, "SuperDriver$Node", kc_Node, by decide, Or.inl ⟨rfl, Or.inl ⟨tb1_in (i := 174) rfl, rfl⟩⟩, Or.inl rfl⟩
theorem w_Node_m_47 (y : String) : FW "SuperDriver$Node" y 47 6 12 := ⟨_, _, _, "SuperDriver$Node", kc_Node, by decide, Or.inl ⟨rfl, Or.inl ⟨tb1_in (i := 177) rfl, rfl⟩⟩, Or.inl rfl⟩
theorem w_Node_m_50 (y : String) : FW "SuperDriver$Node" y 50 6 13 := ⟨_, _, _, "SuperDriver$Node", kc_Node, by decide, Or.inl ⟨rfl, Or.inl ⟨tb1_in (i := 180) rfl, rfl⟩⟩, Or.inl rfl⟩
theorem f_Node_70 : FR "SuperDriver$Node" 70 6 5 := ⟨_, _, _, "SuperDriver$Node", kc_Node, by decide, Or.inl ⟨tb1_in (i := 159) rfl, rfl⟩, Or.inl rfl⟩
theorem w_Program_init_9_4 : FW "SuperDriver$Program" "<init>" 9 4 1 := ⟨_, _, _, "SuperDriver$Program", kc_SourceProgram, by decide, Or.inr ⟨rfl, rfl, rfl, tb1_in (i := 112) rfl, rfl⟩, Or.inl rfl⟩
theorem w_Program_init_9_9 : FW "SuperDriver$Program" "<init>" 9 9 1 := ⟨_, _, _, "SuperDriver$Program", kc_ResidualProgram, by decide, Or.inr ⟨rfl, rfl, rfl, tb1_in (i := 112) rfl, rfl⟩, Or.inl rfl⟩
theorem w_Program_init_15_4 : FW "SuperDriver$Program" "<init>" 15 4 2 := ⟨_, _, _, "SuperDriver$Program", kc_SourceProgram, by decide, Or.inr ⟨rfl, rfl, rfl, tb1_in (i := 117) rfl, rfl⟩, Or.inl rfl⟩
theorem w_Program_init_15_9 : FW "SuperDriver$Program" "<init>" 15 9 2 := ⟨_, _, _, "SuperDriver$Program", kc_ResidualProgram, by decide, Or.inr ⟨rfl, rfl, rfl, tb1_in (i := 117) rfl, rfl⟩, Or.inl rfl⟩
theorem f_Program_9_4 : FR "SuperDriver$Program" 9 4 1 := ⟨_, _, _, "SuperDriver$Program", kc_SourceProgram, by decide, Or.inl ⟨tb1_in (i := 112) rfl, rfl⟩, Or.inl rfl⟩
theorem f_Program_9_9 : FR "SuperDriver$Program" 9 9 1 := ⟨_, _, _, "SuperDriver$Program", kc_ResidualProgram, by decide, Or.inl ⟨tb1_in (i := 112) rfl, rfl⟩, Or.inl rfl⟩
theorem f_Program_15_4 : FR "SuperDriver$Program" 15 4 2 := ⟨_, _, _, "SuperDriver$Program", kc_SourceProgram, by decide, Or.inl ⟨tb1_in (i := 117) rfl, rfl⟩, Or.inl rfl⟩
theorem f_Program_15_9 : FR "SuperDriver$Program" 15 9 2 := ⟨_, _, _, "SuperDriver$Program", kc_ResidualProgram, by decide, Or.inl ⟨tb1_in (i := 117) rfl, rfl⟩, Or.inl rfl⟩
theorem w_ResidualProgram_init_9 : FW "SuperDriver$ResidualProgram" "<init>" 9 9 0 := ⟨_, _, _, "SuperDriver$ResidualProgram", kc_ResidualProgram, by decide, Or.inr ⟨rfl, rfl, rfl, tb2_in (i := 54) rfl, rfl⟩, Or.inl rfl⟩
theorem f_ResidualProgram_52 : FR "SuperDriver$ResidualProgram" 52 6 4 := ⟨_, _, _, "SuperDriver$Node", kc_Node, by decide, Or.inr ⟨"SuperDriver", tb1_in (i := 157) rfl⟩, Or.inl rfl⟩
theorem f_ResidualProgram_21 : FR "SuperDriver$ResidualProgram" 21 6 2 := ⟨_, _, _, "SuperDriver$Node", kc_Node, by decide, Or.inr ⟨"SuperDriver", tb1_in (i := 152) rfl⟩, Or.inl rfl⟩
theorem f_ResidualProgram_74 : FR "SuperDriver$ResidualProgram" 74 6 6 := ⟨_, _, _, "SuperDriver$Node", kc_Node, by decide, Or.inr ⟨"SuperDriver", tb1_in (i := 161) rfl⟩, Or.inl rfl⟩
theorem f_ResidualProgram_9 : FR "SuperDriver$ResidualProgram" 9 9 0 := ⟨_, _, _, "SuperDriver$ResidualProgram", kc_ResidualProgram, by decide, Or.inl ⟨tb2_in (i := 54) rfl, rfl⟩, Or.inl rfl⟩
theorem f_ResidualProgram_35 : FR "SuperDriver$ResidualProgram" 35 6 10 := ⟨_, _, _, "SuperDriver$Node", kc_Node, by decide, Or.inr ⟨"SuperDriver", tb1_in (i := 172) rfl⟩, Or.inl rfl⟩
theorem f_ResidualProgram_71 : FR "SuperDriver$ResidualProgram" 71 6 11 := ⟨_, _, _, "SuperDriver$Node", kc_Node, by decide, Or.inr ⟨"SuperDriver", tb1_in (i := 175) rfl⟩, Or.inl rfl⟩
theorem f_ResidualProgram_77 : FR "SuperDriver$ResidualProgram" 77 6 7 := ⟨_, _, _, "SuperDriver$Node", kc_Node, by decide, Or.inr ⟨"SuperDriver", tb1_in (i := 164) rfl⟩, Or.inl rfl⟩
theorem w_ResidualProgram_m_35 (y : String) : FW "SuperDriver$ResidualProgram" y 35 6 10 := ⟨_, _, _, "SuperDriver$Node", kc_Node, by decide, Or.inl ⟨rfl, Or.inr ⟨"SuperDriver", tb1_in (i := 172) rfl⟩⟩, Or.inl rfl⟩
theorem f_ResidualProgram_80 : FR "SuperDriver$ResidualProgram" 80 6 9 := ⟨_, _, _, "SuperDriver$Node", kc_Node, by decide, Or.inr ⟨"SuperDriver", tb1_in (i := 170) rfl⟩, Or.inl rfl⟩
theorem f_ResidualProgram_67 : FR "SuperDriver$ResidualProgram" 67 6 12 := ⟨_, _, _, "SuperDriver$Node", kc_Node, by decide, Or.inr ⟨"SuperDriver", tb1_in (i := 178) rfl⟩, Or.inl rfl⟩
theorem f_ResidualProgram_83 : FR "SuperDriver$ResidualProgram" 83 6 0 := ⟨_, _, _, "SuperDriver$Node", kc_Node, by decide, Or.inr ⟨"SuperDriver", tb1_in (i := 144) rfl⟩, Or.inl rfl⟩
theorem f_ResidualProgram_93 : FR "SuperDriver$ResidualProgram" 93 6 1 := ⟨_, _, _, "SuperDriver$Node", kc_Node, by decide, Or.inr ⟨"SuperDriver", tb1_in (i := 149) rfl⟩, Or.inl rfl⟩
theorem f_ResidualProgram_133 : FR "SuperDriver$ResidualProgram" 133 9 2 := ⟨_, _, _, "SuperDriver$ResidualProgram", kc_ResidualProgram, by decide, Or.inl ⟨tb1_in (i := 118) rfl, rfl⟩, Or.inr ⟨tb1_in (i := 119) rfl, rfl⟩⟩
theorem f_ResidualProgram_142 : FR "SuperDriver$ResidualProgram" 142 6 13 := ⟨_, _, _, "SuperDriver$Node", kc_Node, by decide, Or.inr ⟨"SuperDriver", tb1_in (i := 182) rfl⟩, Or.inl rfl⟩
theorem f_ResidualProgram_90 : FR "SuperDriver$ResidualProgram" 90 6 8 := ⟨_, _, _, "SuperDriver$Node", kc_Node, by decide, Or.inr ⟨"SuperDriver", tb1_in (i := 167) rfl⟩, Or.inl rfl⟩
theorem f_ResidualProgram_106 : FR "SuperDriver$ResidualProgram" 106 9 1 := ⟨_, _, _, "SuperDriver$ResidualProgram", kc_ResidualProgram, by decide, Or.inl ⟨tb1_in (i := 115) rfl, rfl⟩, Or.inr ⟨tb1_in (i := 116) rfl, rfl⟩⟩
theorem w_Row_init_15 : FW "SuperDriver$Row" "<init>" 15 1 0 := ⟨_, _, _, "SuperDriver$Row", kc_Row, by decide, Or.inr ⟨rfl, rfl, rfl, tb1_in (i := 39) rfl, rfl⟩, Or.inl rfl⟩
theorem w_Row_init_21 (y : String) : FW "SuperDriver$Row" y 21 1 1 := ⟨_, _, _, "SuperDriver$Row", kc_Row, by decide, Or.inl ⟨rfl, Or.inl ⟨tb1_in (i := 40) rfl, rfl⟩⟩, Or.inl rfl⟩
theorem w_Row_init_25 (y : String) : FW "SuperDriver$Row" y 25 1 2 := ⟨_, _, _, "SuperDriver$Row", kc_Row, by decide, Or.inl ⟨rfl, Or.inl ⟨tb1_in (i := 41) rfl, rfl⟩⟩, Or.inl rfl⟩
theorem f_Row_21 : FR "SuperDriver$Row" 21 1 1 := ⟨_, _, _, "SuperDriver$Row", kc_Row, by decide, Or.inl ⟨tb1_in (i := 40) rfl, rfl⟩, Or.inl rfl⟩
theorem f_Row_15 : FR "SuperDriver$Row" 15 1 0 := ⟨_, _, _, "SuperDriver$Row", kc_Row, by decide, Or.inl ⟨tb1_in (i := 39) rfl, rfl⟩, Or.inl rfl⟩
theorem w_Row_m_21 (y : String) : FW "SuperDriver$Row" y 21 1 1 := ⟨_, _, _, "SuperDriver$Row", kc_Row, by decide, Or.inl ⟨rfl, Or.inl ⟨tb1_in (i := 40) rfl, rfl⟩⟩, Or.inl rfl⟩
theorem w_Row_m_25 (y : String) : FW "SuperDriver$Row" y 25 1 2 := ⟨_, _, _, "SuperDriver$Row", kc_Row, by decide, Or.inl ⟨rfl, Or.inl ⟨tb1_in (i := 41) rfl, rfl⟩⟩, Or.inl rfl⟩
theorem f_Row_25 : FR "SuperDriver$Row" 25 1 2 := ⟨_, _, _, "SuperDriver$Row", kc_Row, by decide, Or.inl ⟨tb1_in (i := 41) rfl, rfl⟩, Or.inl rfl⟩
theorem w_Runner_init_14 (y : String) : FW "SuperDriver$Runner" y 14 10 2 := ⟨_, _, _, "SuperDriver$Runner", kc_Runner, by decide, Or.inl ⟨rfl, Or.inl ⟨tb2_in (i := 70) rfl, rfl⟩⟩, Or.inl rfl⟩
theorem w_Runner_init_20 (y : String) : FW "SuperDriver$Runner" y 20 10 3 := ⟨_, _, _, "SuperDriver$Runner", kc_Runner, by decide, Or.inl ⟨rfl, Or.inl ⟨tb2_in (i := 71) rfl, rfl⟩⟩, Or.inl rfl⟩
theorem w_Runner_init_23 (y : String) : FW "SuperDriver$Runner" y 23 10 4 := ⟨_, _, _, "SuperDriver$Runner", kc_Runner, by decide, Or.inl ⟨rfl, Or.inl ⟨tb2_in (i := 72) rfl, rfl⟩⟩, Or.inl rfl⟩
theorem w_Runner_init_27 (y : String) : FW "SuperDriver$Runner" y 27 10 5 := ⟨_, _, _, "SuperDriver$Runner", kc_Runner, by decide, Or.inl ⟨rfl, Or.inl ⟨tb2_in (i := 73) rfl, rfl⟩⟩, Or.inl rfl⟩
theorem w_Runner_init_30 : FW "SuperDriver$Runner" "<init>" 30 10 0 := ⟨_, _, _, "SuperDriver$Runner", kc_Runner, by decide, Or.inr ⟨rfl, rfl, rfl, tb2_in (i := 68) rfl, rfl⟩, Or.inl rfl⟩
theorem w_Runner_init_34 : FW "SuperDriver$Runner" "<init>" 34 10 1 := ⟨_, _, _, "SuperDriver$Runner", kc_Runner, by decide, Or.inr ⟨rfl, rfl, rfl, tb2_in (i := 69) rfl, rfl⟩, Or.inl rfl⟩
theorem f_Runner_34 : FR "SuperDriver$Runner" 34 10 1 := ⟨_, _, _, "SuperDriver$Runner", kc_Runner, by decide, Or.inl ⟨tb2_in (i := 69) rfl, rfl⟩, Or.inl rfl⟩
theorem f_Runner_14 : FR "SuperDriver$Runner" 14 10 2 := ⟨_, _, _, "SuperDriver$Runner", kc_Runner, by decide, Or.inl ⟨tb2_in (i := 70) rfl, rfl⟩, Or.inl rfl⟩
theorem w_Runner_m_23 (y : String) : FW "SuperDriver$Runner" y 23 10 4 := ⟨_, _, _, "SuperDriver$Runner", kc_Runner, by decide, Or.inl ⟨rfl, Or.inl ⟨tb2_in (i := 72) rfl, rfl⟩⟩, Or.inl rfl⟩
theorem w_Runner_m_27 (y : String) : FW "SuperDriver$Runner" y 27 10 5 := ⟨_, _, _, "SuperDriver$Runner", kc_Runner, by decide, Or.inl ⟨rfl, Or.inl ⟨tb2_in (i := 73) rfl, rfl⟩⟩, Or.inl rfl⟩
theorem f_Runner_23 : FR "SuperDriver$Runner" 23 10 4 := ⟨_, _, _, "SuperDriver$Runner", kc_Runner, by decide, Or.inl ⟨tb2_in (i := 72) rfl, rfl⟩, Or.inl rfl⟩
theorem f_Runner_27 : FR "SuperDriver$Runner" 27 10 5 := ⟨_, _, _, "SuperDriver$Runner", kc_Runner, by decide, Or.inl ⟨tb2_in (i := 73) rfl, rfl⟩, Or.inl rfl⟩
theorem f_Runner_30 : FR "SuperDriver$Runner" 30 10 0 := ⟨_, _, _, "SuperDriver$Runner", kc_Runner, by decide, Or.inl ⟨tb2_in (i := 68) rfl, rfl⟩, Or.inl rfl⟩
theorem f_Runner_20 : FR "SuperDriver$Runner" 20 10 3 := ⟨_, _, _, "SuperDriver$Runner", kc_Runner, by decide, Or.inl ⟨tb2_in (i := 71) rfl, rfl⟩, Or.inl rfl⟩
theorem w_Runner_m_14 (y : String) : FW "SuperDriver$Runner" y 14 10 2 := ⟨_, _, _, "SuperDriver$Runner", kc_Runner, by decide, Or.inl ⟨rfl, Or.inl ⟨tb2_in (i := 70) rfl, rfl⟩⟩, Or.inl rfl⟩
theorem w_Runner_m_20 (y : String) : FW "SuperDriver$Runner" y 20 10 3 := ⟨_, _, _, "SuperDriver$Runner", kc_Runner, by decide, Or.inl ⟨rfl, Or.inl ⟨tb2_in (i := 71) rfl, rfl⟩⟩, Or.inl rfl⟩
theorem w_Signs_init_9 : FW "SuperDriver$Signs" "<init>" 9 3 0 := ⟨_, _, _, "SuperDriver$Signs", kc_Signs, by decide, Or.inr ⟨rfl, rfl, rfl, tb1_in (i := 82) rfl, rfl⟩, Or.inl rfl⟩
theorem w_Signs_init_15 : FW "SuperDriver$Signs" "<init>" 15 3 1 := ⟨_, _, _, "SuperDriver$Signs", kc_Signs, by decide, Or.inr ⟨rfl, rfl, rfl, tb1_in (i := 83) rfl, rfl⟩, Or.inl rfl⟩
theorem w_Signs_init_19 : FW "SuperDriver$Signs" "<init>" 19 3 2 := ⟨_, _, _, "SuperDriver$Signs", kc_Signs, by decide, Or.inr ⟨rfl, rfl, rfl, tb1_in (i := 84) rfl, rfl⟩, Or.inl rfl⟩
theorem w_Signs_init_22 : FW "SuperDriver$Signs" "<init>" 22 3 3 := ⟨_, _, _, "SuperDriver$Signs", kc_Signs, by decide, Or.inr ⟨rfl, rfl, rfl, tb1_in (i := 85) rfl, rfl⟩, Or.inl rfl⟩
theorem w_Signs_init_25 : FW "SuperDriver$Signs" "<init>" 25 3 4 := ⟨_, _, _, "SuperDriver$Signs", kc_Signs, by decide, Or.inr ⟨rfl, rfl, rfl, tb1_in (i := 86) rfl, rfl⟩, Or.inl rfl⟩
theorem f_Signs_9 : FR "SuperDriver$Signs" 9 3 0 := ⟨_, _, _, "SuperDriver$Signs", kc_Signs, by decide, Or.inl ⟨tb1_in (i := 82) rfl, rfl⟩, Or.inl rfl⟩
theorem f_Signs_19 : FR "SuperDriver$Signs" 19 3 2 := ⟨_, _, _, "SuperDriver$Signs", kc_Signs, by decide, Or.inl ⟨tb1_in (i := 84) rfl, rfl⟩, Or.inl rfl⟩
theorem f_Signs_22 : FR "SuperDriver$Signs" 22 3 3 := ⟨_, _, _, "SuperDriver$Signs", kc_Signs, by decide, Or.inl ⟨tb1_in (i := 85) rfl, rfl⟩, Or.inl rfl⟩
theorem f_Signs_25 : FR "SuperDriver$Signs" 25 3 4 := ⟨_, _, _, "SuperDriver$Signs", kc_Signs, by decide, Or.inl ⟨tb1_in (i := 86) rfl, rfl⟩, Or.inl rfl⟩
theorem f_Signs_15 : FR "SuperDriver$Signs" 15 3 1 := ⟨_, _, _, "SuperDriver$Signs", kc_Signs, by decide, Or.inl ⟨tb1_in (i := 83) rfl, rfl⟩, Or.inl rfl⟩
theorem w_SourceProgram_init_11 : FW "SuperDriver$SourceProgram" "<init>" 11 4 0 := ⟨_, _, _, "SuperDriver$SourceProgram", kc_SourceProgram, by decide, Or.inr ⟨rfl, rfl, rfl, tb1_in (i := 111) rfl, rfl⟩, Or.inl rfl⟩
theorem f_SourceProgram_11 : FR "SuperDriver$SourceProgram" 11 4 0 := ⟨_, _, _, "SuperDriver$SourceProgram", kc_SourceProgram, by decide, Or.inl ⟨tb1_in (i := 111) rfl, rfl⟩, Or.inl rfl⟩
theorem f_SourceProgram_20 : FR "SuperDriver$SourceProgram" 20 4 1 := ⟨_, _, _, "SuperDriver$SourceProgram", kc_SourceProgram, by decide, Or.inl ⟨tb1_in (i := 113) rfl, rfl⟩, Or.inr ⟨tb1_in (i := 114) rfl, rfl⟩⟩
theorem w_Substitution_init_11 : FW "SuperDriver$Substitution" "<init>" 11 2 0 := ⟨_, _, _, "SuperDriver$Substitution", kc_Substitution, by decide, Or.inr ⟨rfl, rfl, rfl, tb1_in (i := 58) rfl, rfl⟩, Or.inl rfl⟩
theorem w_Substitution_init_17 : FW "SuperDriver$Substitution" "<init>" 17 2 1 := ⟨_, _, _, "SuperDriver$Substitution", kc_Substitution, by decide, Or.inr ⟨rfl, rfl, rfl, tb1_in (i := 59) rfl, rfl⟩, Or.inl rfl⟩
theorem w_Substitution_init_21 : FW "SuperDriver$Substitution" "<init>" 21 2 2 := ⟨_, _, _, "SuperDriver$Substitution", kc_Substitution, by decide, Or.inr ⟨rfl, rfl, rfl, tb1_in (i := 60) rfl, rfl⟩, Or.inl rfl⟩
theorem w_Substitution_init_24 : FW "SuperDriver$Substitution" "<init>" 24 2 3 := ⟨_, _, _, "SuperDriver$Substitution", kc_Substitution, by decide, Or.inr ⟨rfl, rfl, rfl, tb1_in (i := 61) rfl, rfl⟩, Or.inl rfl⟩
theorem w_Substitution_init_27 (y : String) : FW "SuperDriver$Substitution" y 27 2 4 := ⟨_, _, _, "SuperDriver$Substitution", kc_Substitution, by decide, Or.inl ⟨rfl, Or.inl ⟨tb1_in (i := 62) rfl, rfl⟩⟩, Or.inl rfl⟩
theorem f_Substitution_24 : FR "SuperDriver$Substitution" 24 2 3 := ⟨_, _, _, "SuperDriver$Substitution", kc_Substitution, by decide, Or.inl ⟨tb1_in (i := 61) rfl, rfl⟩, Or.inl rfl⟩
theorem f_Substitution_27 : FR "SuperDriver$Substitution" 27 2 4 := ⟨_, _, _, "SuperDriver$Substitution", kc_Substitution, by decide, Or.inl ⟨tb1_in (i := 62) rfl, rfl⟩, Or.inl rfl⟩
theorem f_Substitution_11 : FR "SuperDriver$Substitution" 11 2 0 := ⟨_, _, _, "SuperDriver$Substitution", kc_Substitution, by decide, Or.inl ⟨tb1_in (i := 58) rfl, rfl⟩, Or.inl rfl⟩
theorem f_Substitution_17 : FR "SuperDriver$Substitution" 17 2 1 := ⟨_, _, _, "SuperDriver$Substitution", kc_Substitution, by decide, Or.inl ⟨tb1_in (i := 59) rfl, rfl⟩, Or.inl rfl⟩
theorem f_Substitution_21 : FR "SuperDriver$Substitution" 21 2 2 := ⟨_, _, _, "SuperDriver$Substitution", kc_Substitution, by decide, Or.inl ⟨tb1_in (i := 60) rfl, rfl⟩, Or.inl rfl⟩
theorem w_Substitution_m_27 (y : String) : FW "SuperDriver$Substitution" y 27 2 4 := ⟨_, _, _, "SuperDriver$Substitution", kc_Substitution, by decide, Or.inl ⟨rfl, Or.inl ⟨tb1_in (i := 62) rfl, rfl⟩⟩, Or.inl rfl⟩
theorem w_Tree_init_11 : FW "SuperDriver$Tree" "<init>" 11 5 0 := ⟨_, _, _, "SuperDriver$Tree", kc_Tree, by decide, Or.inr ⟨rfl, rfl, rfl, tb1_in (i := 212) rfl, rfl⟩, Or.inl rfl⟩
theorem w_Tree_init_17 (y : String) : FW "SuperDriver$Tree" y 17 5 1 := ⟨_, _, _, "SuperDriver$Tree", kc_Tree, by decide, Or.inl ⟨rfl, Or.inl ⟨tb1_in (i := 213) rfl, rfl⟩⟩, Or.inl rfl⟩
theorem w_Tree_init_21 (y : String) : FW "SuperDriver$Tree" y 21 5 2 := ⟨_, _, _, "SuperDriver$Tree", kc_Tree, by decide, Or.inl ⟨rfl, Or.inl ⟨tb1_in (i := 214) rfl, rfl⟩⟩, Or.inl rfl⟩
theorem w_Tree_init_24 (y : String) : FW "SuperDriver$Tree" y 24 5 3 := ⟨_, _, _, "SuperDriver$Tree", kc_Tree, by decide, Or.inl ⟨rfl, Or.inl ⟨tb1_in (i := 215) rfl, rfl⟩⟩, Or.inl rfl⟩
theorem f_Tree_11 : FR "SuperDriver$Tree" 11 5 0 := ⟨_, _, _, "SuperDriver$Tree", kc_Tree, by decide, Or.inl ⟨tb1_in (i := 212) rfl, rfl⟩, Or.inl rfl⟩
theorem f_Tree_17 : FR "SuperDriver$Tree" 17 5 1 := ⟨_, _, _, "SuperDriver$Tree", kc_Tree, by decide, Or.inl ⟨tb1_in (i := 213) rfl, rfl⟩, Or.inl rfl⟩
theorem w_Tree_m_24 (y : String) : FW "SuperDriver$Tree" y 24 5 3 := ⟨_, _, _, "SuperDriver$Tree", kc_Tree, by decide, Or.inl ⟨rfl, Or.inl ⟨tb1_in (i := 215) rfl, rfl⟩⟩, Or.inl rfl⟩
theorem w_Tree_m_17 (y : String) : FW "SuperDriver$Tree" y 17 5 1 := ⟨_, _, _, "SuperDriver$Tree", kc_Tree, by decide, Or.inl ⟨rfl, Or.inl ⟨tb1_in (i := 213) rfl, rfl⟩⟩, Or.inl rfl⟩
theorem w_Tree_m_21 (y : String) : FW "SuperDriver$Tree" y 21 5 2 := ⟨_, _, _, "SuperDriver$Tree", kc_Tree, by decide, Or.inl ⟨rfl, Or.inl ⟨tb1_in (i := 214) rfl, rfl⟩⟩, Or.inl rfl⟩
theorem f_Tree_24 : FR "SuperDriver$Tree" 24 5 3 := ⟨_, _, _, "SuperDriver$Tree", kc_Tree, by decide, Or.inl ⟨tb1_in (i := 215) rfl, rfl⟩, Or.inl rfl⟩
theorem f_Tree_21 : FR "SuperDriver$Tree" 21 5 2 := ⟨_, _, _, "SuperDriver$Tree", kc_Tree, by decide, Or.inl ⟨tb1_in (i := 214) rfl, rfl⟩, Or.inl rfl⟩
theorem f_Tree_45 : FR "SuperDriver$Tree" 45 6 0 := ⟨_, _, _, "SuperDriver$Node", kc_Node, by decide, Or.inr ⟨"SuperDriver", tb1_in (i := 143) rfl⟩, Or.inl rfl⟩
theorem w_Mo_init_7 : FW "SuperDriverModel" "<init>" 7 11 2 := ⟨_, _, _, "SuperDriverModel", kc_Mo, by decide, Or.inr ⟨rfl, rfl, rfl, tb5_in (i := 31) rfl, rfl⟩, Or.inl rfl⟩
theorem w_Mo_init_13 : FW "SuperDriverModel" "<init>" 13 11 3 := ⟨_, _, _, "SuperDriverModel", kc_Mo, by decide, Or.inr ⟨rfl, rfl, rfl, tb5_in (i := 32) rfl, rfl⟩, Or.inl rfl⟩
theorem w_Mo_init_16 : FW "SuperDriverModel" "<init>" 16 11 4 := ⟨_, _, _, "SuperDriverModel", kc_Mo, by decide, Or.inr ⟨rfl, rfl, rfl, tb5_in (i := 33) rfl, rfl⟩, Or.inl rfl⟩
theorem w_Mo_init_20 : FW "SuperDriverModel" "<init>" 20 11 5 := ⟨_, _, _, "SuperDriverModel", kc_Mo, by decide, Or.inr ⟨rfl, rfl, rfl, tb5_in (i := 34) rfl, rfl⟩, Or.inl rfl⟩
theorem w_Mo_init_23 : FW "SuperDriverModel" "<init>" 23 11 6 := ⟨_, _, _, "SuperDriverModel", kc_Mo, by decide, Or.inr ⟨rfl, rfl, rfl, tb5_in (i := 35) rfl, rfl⟩, Or.inl rfl⟩
theorem w_Mo_init_26 : FW "SuperDriverModel" "<init>" 26 11 8 := ⟨_, _, _, "SuperDriverModel", kc_Mo, by decide, Or.inr ⟨rfl, rfl, rfl, tb5_in (i := 37) rfl, rfl⟩, Or.inl rfl⟩
theorem w_Mo_init_29 : FW "SuperDriverModel" "<init>" 29 11 9 := ⟨_, _, _, "SuperDriverModel", kc_Mo, by decide, Or.inr ⟨rfl, rfl, rfl, tb5_in (i := 38) rfl, rfl⟩, Or.inl rfl⟩
theorem w_Mo_init_32 : FW "SuperDriverModel" "<init>" 32 11 10 := ⟨_, _, _, "SuperDriverModel", kc_Mo, by decide, Or.inr ⟨rfl, rfl, rfl, tb5_in (i := 39) rfl, rfl⟩, Or.inl rfl⟩
theorem w_Mo_init_35 : FW "SuperDriverModel" "<init>" 35 11 15 := ⟨_, _, _, "SuperDriverModel", kc_Mo, by decide, Or.inr ⟨rfl, rfl, rfl, tb5_in (i := 44) rfl, rfl⟩, Or.inl rfl⟩
theorem w_Mo_init_38 : FW "SuperDriverModel" "<init>" 38 11 16 := ⟨_, _, _, "SuperDriverModel", kc_Mo, by decide, Or.inr ⟨rfl, rfl, rfl, tb5_in (i := 45) rfl, rfl⟩, Or.inl rfl⟩
theorem w_Mo_init_41 : FW "SuperDriverModel" "<init>" 41 11 17 := ⟨_, _, _, "SuperDriverModel", kc_Mo, by decide, Or.inr ⟨rfl, rfl, rfl, tb5_in (i := 46) rfl, rfl⟩, Or.inl rfl⟩
theorem w_Mo_init_44 : FW "SuperDriverModel" "<init>" 44 11 18 := ⟨_, _, _, "SuperDriverModel", kc_Mo, by decide, Or.inr ⟨rfl, rfl, rfl, tb5_in (i := 47) rfl, rfl⟩, Or.inl rfl⟩
theorem w_Mo_init_47 : FW "SuperDriverModel" "<init>" 47 11 19 := ⟨_, _, _, "SuperDriverModel", kc_Mo, by decide, Or.inr ⟨rfl, rfl, rfl, tb5_in (i := 48) rfl, rfl⟩, Or.inl rfl⟩
theorem w_Mo_init_50 : FW "SuperDriverModel" "<init>" 50 11 20 := ⟨_, _, _, "SuperDriverModel", kc_Mo, by decide, Or.inr ⟨rfl, rfl, rfl, tb5_in (i := 49) rfl, rfl⟩, Or.inl rfl⟩
theorem w_Mo_init_53 : FW "SuperDriverModel" "<init>" 53 11 21 := ⟨_, _, _, "SuperDriverModel", kc_Mo, by decide, Or.inr ⟨rfl, rfl, rfl, tb5_in (i := 50) rfl, rfl⟩, Or.inl rfl⟩
theorem w_Mo_init_56 : FW "SuperDriverModel" "<init>" 56 11 22 := ⟨_, _, _, "SuperDriverModel", kc_Mo, by decide, Or.inr ⟨rfl, rfl, rfl, tb5_in (i := 51) rfl, rfl⟩, Or.inl rfl⟩
theorem w_Mo_init_59 : FW "SuperDriverModel" "<init>" 59 11 23 := ⟨_, _, _, "SuperDriverModel", kc_Mo, by decide, Or.inr ⟨rfl, rfl, rfl, tb5_in (i := 52) rfl, rfl⟩, Or.inl rfl⟩
theorem w_Mo_init_62 : FW "SuperDriverModel" "<init>" 62 11 24 := ⟨_, _, _, "SuperDriverModel", kc_Mo, by decide, Or.inr ⟨rfl, rfl, rfl, tb5_in (i := 53) rfl, rfl⟩, Or.inl rfl⟩
theorem w_Mo_init_65 : FW "SuperDriverModel" "<init>" 65 11 25 := ⟨_, _, _, "SuperDriverModel", kc_Mo, by decide, Or.inr ⟨rfl, rfl, rfl, tb5_in (i := 54) rfl, rfl⟩, Or.inl rfl⟩
theorem w_Mo_init_68 : FW "SuperDriverModel" "<init>" 68 11 26 := ⟨_, _, _, "SuperDriverModel", kc_Mo, by decide, Or.inr ⟨rfl, rfl, rfl, tb5_in (i := 55) rfl, rfl⟩, Or.inl rfl⟩
theorem w_Mo_init_71 : FW "SuperDriverModel" "<init>" 71 11 27 := ⟨_, _, _, "SuperDriverModel", kc_Mo, by decide, Or.inr ⟨rfl, rfl, rfl, tb5_in (i := 56) rfl, rfl⟩, Or.inl rfl⟩
theorem w_Mo_init_74 : FW "SuperDriverModel" "<init>" 74 11 28 := ⟨_, _, _, "SuperDriverModel", kc_Mo, by decide, Or.inr ⟨rfl, rfl, rfl, tb5_in (i := 57) rfl, rfl⟩, Or.inl rfl⟩
theorem w_Mo_init_77 : FW "SuperDriverModel" "<init>" 77 11 29 := ⟨_, _, _, "SuperDriverModel", kc_Mo, by decide, Or.inr ⟨rfl, rfl, rfl, tb5_in (i := 58) rfl, rfl⟩, Or.inl rfl⟩
theorem w_Mo_init_80 : FW "SuperDriverModel" "<init>" 80 11 31 := ⟨_, _, _, "SuperDriverModel", kc_Mo, by decide, Or.inr ⟨rfl, rfl, rfl, tb5_in (i := 60) rfl, rfl⟩, Or.inl rfl⟩
theorem w_Mo_init_83 : FW "SuperDriverModel" "<init>" 83 11 32 := ⟨_, _, _, "SuperDriverModel", kc_Mo, by decide, Or.inr ⟨rfl, rfl, rfl, tb5_in (i := 61) rfl, rfl⟩, Or.inl rfl⟩
theorem w_Mo_init_86 : FW "SuperDriverModel" "<init>" 86 11 33 := ⟨_, _, _, "SuperDriverModel", kc_Mo, by decide, Or.inr ⟨rfl, rfl, rfl, tb5_in (i := 62) rfl, rfl⟩, Or.inl rfl⟩
theorem w_Mo_init_89 : FW "SuperDriverModel" "<init>" 89 11 34 := ⟨_, _, _, "SuperDriverModel", kc_Mo, by decide, Or.inr ⟨rfl, rfl, rfl, tb5_in (i := 63) rfl, rfl⟩, Or.inl rfl⟩
theorem w_Mo_init_92 : FW "SuperDriverModel" "<init>" 92 11 35 := ⟨_, _, _, "SuperDriverModel", kc_Mo, by decide, Or.inr ⟨rfl, rfl, rfl, tb5_in (i := 64) rfl, rfl⟩, Or.inl rfl⟩
theorem w_Mo_init_95 : FW "SuperDriverModel" "<init>" 95 11 36 := ⟨_, _, _, "SuperDriverModel", kc_Mo, by decide, Or.inr ⟨rfl, rfl, rfl, tb5_in (i := 65) rfl, rfl⟩, Or.inl rfl⟩
theorem w_Mo_init_98 : FW "SuperDriverModel" "<init>" 98 11 37 := ⟨_, _, _, "SuperDriverModel", kc_Mo, by decide, Or.inr ⟨rfl, rfl, rfl, tb5_in (i := 66) rfl, rfl⟩, Or.inl rfl⟩
theorem w_Mo_init_101 : FW "SuperDriverModel" "<init>" 101 11 39 := ⟨_, _, _, "SuperDriverModel", kc_Mo, by decide, Or.inr ⟨rfl, rfl, rfl, tb5_in (i := 68) rfl, rfl⟩, Or.inl rfl⟩
theorem w_Mo_init_104 : FW "SuperDriverModel" "<init>" 104 11 41 := ⟨_, _, _, "SuperDriverModel", kc_Mo, by decide, Or.inr ⟨rfl, rfl, rfl, tb5_in (i := 70) rfl, rfl⟩, Or.inl rfl⟩
theorem w_Mo_init_107 : FW "SuperDriverModel" "<init>" 107 11 42 := ⟨_, _, _, "SuperDriverModel", kc_Mo, by decide, Or.inr ⟨rfl, rfl, rfl, tb5_in (i := 71) rfl, rfl⟩, Or.inl rfl⟩
theorem w_Mo_init_110 (y : String) : FW "SuperDriverModel" y 110 11 43 := ⟨_, _, _, "SuperDriverModel", kc_Mo, by decide, Or.inl ⟨rfl, Or.inl ⟨tb5_in (i := 72) rfl, rfl⟩⟩, Or.inl rfl⟩
theorem w_Mo_init_114 : FW "SuperDriverModel" "<init>" 114 11 46 := ⟨_, _, _, "SuperDriverModel", kc_Mo, by decide, Or.inr ⟨rfl, rfl, rfl, tb5_in (i := 75) rfl, rfl⟩, Or.inl rfl⟩
theorem f_Mo_177 : FR "SuperDriverModel" 177 11 12 := ⟨_, _, _, "SuperDriverModel", kc_Mo, by decide, Or.inl ⟨tb5_in (i := 41) rfl, rfl⟩, Or.inl rfl⟩
theorem f_Mo_180 : FR "SuperDriverModel" 180 11 13 := ⟨_, _, _, "SuperDriverModel", kc_Mo, by decide, Or.inl ⟨tb5_in (i := 42) rfl, rfl⟩, Or.inl rfl⟩
theorem w_Mo_m_177 (y : String) : FW "SuperDriverModel" y 177 11 12 := ⟨_, _, _, "SuperDriverModel", kc_Mo, by decide, Or.inl ⟨rfl, Or.inl ⟨tb5_in (i := 41) rfl, rfl⟩⟩, Or.inl rfl⟩
theorem f_Mo_35 : FR "SuperDriverModel" 35 11 15 := ⟨_, _, _, "SuperDriverModel", kc_Mo, by decide, Or.inl ⟨tb5_in (i := 44) rfl, rfl⟩, Or.inl rfl⟩
theorem f_Mo_38 : FR "SuperDriverModel" 38 11 16 := ⟨_, _, _, "SuperDriverModel", kc_Mo, by decide, Or.inl ⟨tb5_in (i := 45) rfl, rfl⟩, Or.inl rfl⟩
theorem f_Mo_47 : FR "SuperDriverModel" 47 11 19 := ⟨_, _, _, "SuperDriverModel", kc_Mo, by decide, Or.inl ⟨tb5_in (i := 48) rfl, rfl⟩, Or.inl rfl⟩
theorem f_Mo_53 : FR "SuperDriverModel" 53 11 21 := ⟨_, _, _, "SuperDriverModel", kc_Mo, by decide, Or.inl ⟨tb5_in (i := 50) rfl, rfl⟩, Or.inl rfl⟩
theorem f_Mo_44 : FR "SuperDriverModel" 44 11 18 := ⟨_, _, _, "SuperDriverModel", kc_Mo, by decide, Or.inl ⟨tb5_in (i := 47) rfl, rfl⟩, Or.inl rfl⟩
theorem f_Mo_41 : FR "SuperDriverModel" 41 11 17 := ⟨_, _, _, "SuperDriverModel", kc_Mo, by decide, Or.inl ⟨tb5_in (i := 46) rfl, rfl⟩, Or.inl rfl⟩
theorem w_Mo_m_180 (y : String) : FW "SuperDriverModel" y 180 11 13 := ⟨_, _, _, "SuperDriverModel", kc_Mo, by decide, Or.inl ⟨rfl, Or.inl ⟨tb5_in (i := 42) rfl, rfl⟩⟩, Or.inl rfl⟩
theorem f_Mo_98 : FR "SuperDriverModel" 98 11 37 := ⟨_, _, _, "SuperDriverModel", kc_Mo, by decide, Or.inl ⟨tb5_in (i := 66) rfl, rfl⟩, Or.inl rfl⟩
theorem f_Mo_50 : FR "SuperDriverModel" 50 11 20 := ⟨_, _, _, "SuperDriverModel", kc_Mo, by decide, Or.inl ⟨tb5_in (i := 49) rfl, rfl⟩, Or.inl rfl⟩
theorem w_Mo_m_157 (y : String) : FW "SuperDriverModel" y 157 11 30 := ⟨_, _, _, "SuperDriverModel", kc_Mo, by decide, Or.inl ⟨rfl, Or.inl ⟨tb5_in (i := 59) rfl, rfl⟩⟩, Or.inl rfl⟩
theorem f_Mo_77 : FR "SuperDriverModel" 77 11 29 := ⟨_, _, _, "SuperDriverModel", kc_Mo, by decide, Or.inl ⟨tb5_in (i := 58) rfl, rfl⟩, Or.inl rfl⟩
theorem f_Mo_135 : FR "SuperDriverModel" 135 11 7 := ⟨_, _, _, "SuperDriverModel", kc_Mo, by decide, Or.inl ⟨tb5_in (i := 36) rfl, rfl⟩, Or.inl rfl⟩
theorem f_Mo_74 : FR "SuperDriverModel" 74 11 28 := ⟨_, _, _, "SuperDriverModel", kc_Mo, by decide, Or.inl ⟨tb5_in (i := 57) rfl, rfl⟩, Or.inl rfl⟩
theorem f_Mo_26 : FR "SuperDriverModel" 26 11 8 := ⟨_, _, _, "SuperDriverModel", kc_Mo, by decide, Or.inl ⟨tb5_in (i := 37) rfl, rfl⟩, Or.inl rfl⟩
theorem f_Mo_32 : FR "SuperDriverModel" 32 11 10 := ⟨_, _, _, "SuperDriverModel", kc_Mo, by decide, Or.inl ⟨tb5_in (i := 39) rfl, rfl⟩, Or.inl rfl⟩
theorem f_Mo_29 : FR "SuperDriverModel" 29 11 9 := ⟨_, _, _, "SuperDriverModel", kc_Mo, by decide, Or.inl ⟨tb5_in (i := 38) rfl, rfl⟩, Or.inl rfl⟩
theorem f_Mo_80 : FR "SuperDriverModel" 80 11 31 := ⟨_, _, _, "SuperDriverModel", kc_Mo, by decide, Or.inl ⟨tb5_in (i := 60) rfl, rfl⟩, Or.inl rfl⟩
theorem f_Mo_62 : FR "SuperDriverModel" 62 11 24 := ⟨_, _, _, "SuperDriverModel", kc_Mo, by decide, Or.inl ⟨tb5_in (i := 53) rfl, rfl⟩, Or.inl rfl⟩
theorem f_Mo_68 : FR "SuperDriverModel" 68 11 26 := ⟨_, _, _, "SuperDriverModel", kc_Mo, by decide, Or.inl ⟨tb5_in (i := 55) rfl, rfl⟩, Or.inl rfl⟩
theorem f_Mo_13 : FR "SuperDriverModel" 13 11 3 := ⟨_, _, _, "SuperDriverModel", kc_Mo, by decide, Or.inl ⟨tb5_in (i := 32) rfl, rfl⟩, Or.inl rfl⟩
theorem f_Mo_16 : FR "SuperDriverModel" 16 11 4 := ⟨_, _, _, "SuperDriverModel", kc_Mo, by decide, Or.inl ⟨tb5_in (i := 33) rfl, rfl⟩, Or.inl rfl⟩
theorem f_Mo_23 : FR "SuperDriverModel" 23 11 6 := ⟨_, _, _, "SuperDriverModel", kc_Mo, by decide, Or.inl ⟨tb5_in (i := 35) rfl, rfl⟩, Or.inl rfl⟩
theorem f_Mo_20 : FR "SuperDriverModel" 20 11 5 := ⟨_, _, _, "SuperDriverModel", kc_Mo, by decide, Or.inl ⟨tb5_in (i := 34) rfl, rfl⟩, Or.inl rfl⟩
theorem w_Mo_m_138 (y : String) : FW "SuperDriverModel" y 138 11 11 := ⟨_, _, _, "SuperDriverModel", kc_Mo, by decide, Or.inl ⟨rfl, Or.inl ⟨tb5_in (i := 40) rfl, rfl⟩⟩, Or.inl rfl⟩
theorem f_Mo_59 : FR "SuperDriverModel" 59 11 23 := ⟨_, _, _, "SuperDriverModel", kc_Mo, by decide, Or.inl ⟨tb5_in (i := 52) rfl, rfl⟩, Or.inl rfl⟩
theorem f_Mo_216 : FR "SuperDriverModel" 216 11 40 := ⟨_, _, _, "SuperDriverModel", kc_Mo, by decide, Or.inl ⟨tb5_in (i := 69) rfl, rfl⟩, Or.inl rfl⟩
theorem f_Mo_104 : FR "SuperDriverModel" 104 11 41 := ⟨_, _, _, "SuperDriverModel", kc_Mo, by decide, Or.inl ⟨tb5_in (i := 70) rfl, rfl⟩, Or.inl rfl⟩
theorem f_Mo_107 : FR "SuperDriverModel" 107 11 42 := ⟨_, _, _, "SuperDriverModel", kc_Mo, by decide, Or.inl ⟨tb5_in (i := 71) rfl, rfl⟩, Or.inl rfl⟩
theorem w_Mo_m_216 (y : String) : FW "SuperDriverModel" y 216 11 40 := ⟨_, _, _, "SuperDriverModel", kc_Mo, by decide, Or.inl ⟨rfl, Or.inl ⟨tb5_in (i := 69) rfl, rfl⟩⟩, Or.inl rfl⟩
theorem f_Mo_101 : FR "SuperDriverModel" 101 11 39 := ⟨_, _, _, "SuperDriverModel", kc_Mo, by decide, Or.inl ⟨tb5_in (i := 68) rfl, rfl⟩, Or.inl rfl⟩
theorem f_Mo_223 : FR "SuperDriverModel" 223 11 38 := ⟨_, _, _, "SuperDriverModel", kc_Mo, by decide, Or.inl ⟨tb5_in (i := 67) rfl, rfl⟩, Or.inl rfl⟩
theorem w_Mo_m_223 (y : String) : FW "SuperDriverModel" y 223 11 38 := ⟨_, _, _, "SuperDriverModel", kc_Mo, by decide, Or.inl ⟨rfl, Or.inl ⟨tb5_in (i := 67) rfl, rfl⟩⟩, Or.inl rfl⟩
theorem w_Mo_m_117 (y : String) : FW "SuperDriverModel" y 117 11 0 := ⟨_, _, _, "SuperDriverModel", kc_Mo, by decide, Or.inl ⟨rfl, Or.inl ⟨tb5_in (i := 29) rfl, rfl⟩⟩, Or.inl rfl⟩
theorem f_Mo_117 : FR "SuperDriverModel" 117 11 0 := ⟨_, _, _, "SuperDriverModel", kc_Mo, by decide, Or.inl ⟨tb5_in (i := 29) rfl, rfl⟩, Or.inl rfl⟩
theorem w_Mo_m_183 (y : String) : FW "SuperDriverModel" y 183 11 14 := ⟨_, _, _, "SuperDriverModel", kc_Mo, by decide, Or.inl ⟨rfl, Or.inl ⟨tb5_in (i := 43) rfl, rfl⟩⟩, Or.inl rfl⟩
theorem f_Mo_65 : FR "SuperDriverModel" 65 11 25 := ⟨_, _, _, "SuperDriverModel", kc_Mo, by decide, Or.inl ⟨tb5_in (i := 54) rfl, rfl⟩, Or.inl rfl⟩
theorem f_Mo_71 : FR "SuperDriverModel" 71 11 27 := ⟨_, _, _, "SuperDriverModel", kc_Mo, by decide, Or.inl ⟨tb5_in (i := 56) rfl, rfl⟩, Or.inl rfl⟩
theorem w_Mo_m_127 (y : String) : FW "SuperDriverModel" y 127 11 1 := ⟨_, _, _, "SuperDriverModel", kc_Mo, by decide, Or.inl ⟨rfl, Or.inl ⟨tb5_in (i := 30) rfl, rfl⟩⟩, Or.inl rfl⟩
theorem w_Mo_m_135 (y : String) : FW "SuperDriverModel" y 135 11 7 := ⟨_, _, _, "SuperDriverModel", kc_Mo, by decide, Or.inl ⟨rfl, Or.inl ⟨tb5_in (i := 36) rfl, rfl⟩⟩, Or.inl rfl⟩
theorem w_Mo_m_110 (y : String) : FW "SuperDriverModel" y 110 11 43 := ⟨_, _, _, "SuperDriverModel", kc_Mo, by decide, Or.inl ⟨rfl, Or.inl ⟨tb5_in (i := 72) rfl, rfl⟩⟩, Or.inl rfl⟩
theorem w_Mo_m_142 (y : String) : FW "SuperDriverModel" y 142 11 44 := ⟨_, _, _, "SuperDriverModel", kc_Mo, by decide, Or.inl ⟨rfl, Or.inl ⟨tb5_in (i := 73) rfl, rfl⟩⟩, Or.inl rfl⟩
theorem f_Mo_183 : FR "SuperDriverModel" 183 11 14 := ⟨_, _, _, "SuperDriverModel", kc_Mo, by decide, Or.inl ⟨tb5_in (i := 43) rfl, rfl⟩, Or.inl rfl⟩
theorem f_Mo_138 : FR "SuperDriverModel" 138 11 11 := ⟨_, _, _, "SuperDriverModel", kc_Mo, by decide, Or.inl ⟨tb5_in (i := 40) rfl, rfl⟩, Or.inl rfl⟩
theorem f_Mo_127 : FR "SuperDriverModel" 127 11 1 := ⟨_, _, _, "SuperDriverModel", kc_Mo, by decide, Or.inl ⟨tb5_in (i := 30) rfl, rfl⟩, Or.inl rfl⟩
theorem f_Mo_7 : FR "SuperDriverModel" 7 11 2 := ⟨_, _, _, "SuperDriverModel", kc_Mo, by decide, Or.inl ⟨tb5_in (i := 31) rfl, rfl⟩, Or.inl rfl⟩
theorem f_Mo_56 : FR "SuperDriverModel" 56 11 22 := ⟨_, _, _, "SuperDriverModel", kc_Mo, by decide, Or.inl ⟨tb5_in (i := 51) rfl, rfl⟩, Or.inl rfl⟩
theorem f_Mo_157 : FR "SuperDriverModel" 157 11 30 := ⟨_, _, _, "SuperDriverModel", kc_Mo, by decide, Or.inl ⟨tb5_in (i := 59) rfl, rfl⟩, Or.inl rfl⟩
theorem f_Mo_92 : FR "SuperDriverModel" 92 11 35 := ⟨_, _, _, "SuperDriverModel", kc_Mo, by decide, Or.inl ⟨tb5_in (i := 64) rfl, rfl⟩, Or.inl rfl⟩
theorem f_Mo_95 : FR "SuperDriverModel" 95 11 36 := ⟨_, _, _, "SuperDriverModel", kc_Mo, by decide, Or.inl ⟨tb5_in (i := 65) rfl, rfl⟩, Or.inl rfl⟩
theorem f_Mo_110 : FR "SuperDriverModel" 110 11 43 := ⟨_, _, _, "SuperDriverModel", kc_Mo, by decide, Or.inl ⟨tb5_in (i := 72) rfl, rfl⟩, Or.inl rfl⟩
theorem f_Mo_292 : FR "SuperDriverModel" 292 11 45 := ⟨_, _, _, "SuperDriverModel", kc_Mo, by decide, Or.inl ⟨tb5_in (i := 74) rfl, rfl⟩, Or.inl rfl⟩
theorem f_Mo_114 : FR "SuperDriverModel" 114 11 46 := ⟨_, _, _, "SuperDriverModel", kc_Mo, by decide, Or.inl ⟨tb5_in (i := 75) rfl, rfl⟩, Or.inl rfl⟩
theorem f_Mo_142 : FR "SuperDriverModel" 142 11 44 := ⟨_, _, _, "SuperDriverModel", kc_Mo, by decide, Or.inl ⟨tb5_in (i := 73) rfl, rfl⟩, Or.inl rfl⟩
theorem w_Mo_m_292 (y : String) : FW "SuperDriverModel" y 292 11 45 := ⟨_, _, _, "SuperDriverModel", kc_Mo, by decide, Or.inl ⟨rfl, Or.inl ⟨tb5_in (i := 74) rfl, rfl⟩⟩, Or.inl rfl⟩
theorem f_Mo_86 : FR "SuperDriverModel" 86 11 33 := ⟨_, _, _, "SuperDriverModel", kc_Mo, by decide, Or.inl ⟨tb5_in (i := 62) rfl, rfl⟩, Or.inl rfl⟩
theorem f_Mo_89 : FR "SuperDriverModel" 89 11 34 := ⟨_, _, _, "SuperDriverModel", kc_Mo, by decide, Or.inl ⟨tb5_in (i := 63) rfl, rfl⟩, Or.inl rfl⟩
theorem f_Mo_83 : FR "SuperDriverModel" 83 11 32 := ⟨_, _, _, "SuperDriverModel", kc_Mo, by decide, Or.inl ⟨tb5_in (i := 61) rfl, rfl⟩, Or.inl rfl⟩
