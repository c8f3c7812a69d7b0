section
-- ===== PART A: goes FIRST, ahead of the names: the tables' words, and 'selects' of the private methods out of them =====
/-- a private method of a class that the tables say can be made, by its rows of tables_1 -/
def lw_okq (q : MethodName × Nat) : Prop := (q.1.cls ≠ "java/lang/invoke/MethodHandle" ∧ q.1.cls ≠ "java/lang/invoke/VarHandle") ∧ Cond.instantiable q.1.cls q.2 ∈ tables_1 ∧ Cond.privateMethod q.1 ∈ tables_1 ∧ Cond.instanceMethod q.1 ∈ tables_1
theorem lw_p0 : lw_okq (⟨"java/lang/Throwable", "fillInStackTrace", "(I)Ljava/lang/Throwable;"⟩, 6) := ⟨⟨by decide +kernel, by decide +kernel⟩, List.mem_of_getElem? (i := 528) (by decide +kernel), List.mem_of_getElem? (i := 526) (by decide +kernel), List.mem_of_getElem? (i := 527) (by decide +kernel)⟩
theorem lw_p1 : lw_okq (⟨"SuperDriver$SourceProgram", "placeOf", "(II)LSuperDriver$Row;"⟩, 3) := ⟨⟨by decide +kernel, by decide +kernel⟩, List.mem_of_getElem? (i := 101) (by decide +kernel), List.mem_of_getElem? (i := 614) (by decide +kernel), List.mem_of_getElem? (i := 615) (by decide +kernel)⟩
theorem lw_p2 : lw_okq (⟨"SuperDriver$Driver", "settleWithoutCall", "(LSuperDriver$Node;)V"⟩, 8) := ⟨⟨by decide +kernel, by decide +kernel⟩, List.mem_of_getElem? (i := 226) (by decide +kernel), List.mem_of_getElem? (i := 688) (by decide +kernel), List.mem_of_getElem? (i := 689) (by decide +kernel)⟩
theorem lw_p3 : lw_okq (⟨"SuperDriver$Driver", "embeddedRival", "(LSuperDriver$Node;Z)LSuperDriver$Node;"⟩, 8) := ⟨⟨by decide +kernel, by decide +kernel⟩, List.mem_of_getElem? (i := 226) (by decide +kernel), List.mem_of_getElem? (i := 748) (by decide +kernel), List.mem_of_getElem? (i := 749) (by decide +kernel)⟩
theorem lw_p4 : lw_okq (⟨"SuperDriver$Signs", "findEnds", "(LSuperDriver$Row;[I)V"⟩, 5) := ⟨⟨by decide +kernel, by decide +kernel⟩, List.mem_of_getElem? (i := 75) (by decide +kernel), List.mem_of_getElem? (i := 757) (by decide +kernel), List.mem_of_getElem? (i := 758) (by decide +kernel)⟩
theorem lw_p5 : lw_okq (⟨"SuperDriver$Signs", "embeddedInParts", "(II)J"⟩, 5) := ⟨⟨by decide +kernel, by decide +kernel⟩, List.mem_of_getElem? (i := 75) (by decide +kernel), List.mem_of_getElem? (i := 762) (by decide +kernel), List.mem_of_getElem? (i := 763) (by decide +kernel)⟩
theorem lw_p6 : lw_okq (⟨"SuperDriver$Signs", "couples", "(IIII)Z"⟩, 5) := ⟨⟨by decide +kernel, by decide +kernel⟩, List.mem_of_getElem? (i := 75) (by decide +kernel), List.mem_of_getElem? (i := 766) (by decide +kernel), List.mem_of_getElem? (i := 767) (by decide +kernel)⟩
theorem lw_p7 : lw_okq (⟨"SuperDriver$Signs", "isMarked", "(II)Z"⟩, 5) := ⟨⟨by decide +kernel, by decide +kernel⟩, List.mem_of_getElem? (i := 75) (by decide +kernel), List.mem_of_getElem? (i := 771) (by decide +kernel), List.mem_of_getElem? (i := 772) (by decide +kernel)⟩
theorem lw_p8 : lw_okq (⟨"SuperDriver$Generaliser", "takeApart", "(LSuperDriver$Row;)V"⟩, 7) := ⟨⟨by decide +kernel, by decide +kernel⟩, List.mem_of_getElem? (i := 234) (by decide +kernel), List.mem_of_getElem? (i := 785) (by decide +kernel), List.mem_of_getElem? (i := 786) (by decide +kernel)⟩
theorem lw_p9 : lw_okq (⟨"SuperDriver$Generaliser", "newVariable", "(II)I"⟩, 7) := ⟨⟨by decide +kernel, by decide +kernel⟩, List.mem_of_getElem? (i := 234) (by decide +kernel), List.mem_of_getElem? (i := 791) (by decide +kernel), List.mem_of_getElem? (i := 792) (by decide +kernel)⟩
theorem lw_p10 : lw_okq (⟨"SuperDriver$Generaliser", "let", "(LSuperDriver$Node;[I)V"⟩, 7) := ⟨⟨by decide +kernel, by decide +kernel⟩, List.mem_of_getElem? (i := 234) (by decide +kernel), List.mem_of_getElem? (i := 800) (by decide +kernel), List.mem_of_getElem? (i := 801) (by decide +kernel)⟩
theorem lw_p11 : lw_okq (⟨"SuperDriver$Generaliser", "takeCommon", "(LSuperDriver$Row;LSuperDriver$Row;)V"⟩, 7) := ⟨⟨by decide +kernel, by decide +kernel⟩, List.mem_of_getElem? (i := 234) (by decide +kernel), List.mem_of_getElem? (i := 807) (by decide +kernel), List.mem_of_getElem? (i := 808) (by decide +kernel)⟩
theorem lw_p12 : lw_okq (⟨"SuperDriver$Generaliser", "metBefore", "(LSuperDriver$Row;IILSuperDriver$Row;II)I"⟩, 7) := ⟨⟨by decide +kernel, by decide +kernel⟩, List.mem_of_getElem? (i := 234) (by decide +kernel), List.mem_of_getElem? (i := 811) (by decide +kernel), List.mem_of_getElem? (i := 812) (by decide +kernel)⟩
theorem lw_p13 : lw_okq (⟨"SuperDriver$Driver", "step", "(LSuperDriver$Node;I)V"⟩, 8) := ⟨⟨by decide +kernel, by decide +kernel⟩, List.mem_of_getElem? (i := 226) (by decide +kernel), List.mem_of_getElem? (i := 831) (by decide +kernel), List.mem_of_getElem? (i := 832) (by decide +kernel)⟩
theorem lw_p14 : lw_okq (⟨"SuperDriver$Driver", "split", "(LSuperDriver$Node;I)V"⟩, 8) := ⟨⟨by decide +kernel, by decide +kernel⟩, List.mem_of_getElem? (i := 226) (by decide +kernel), List.mem_of_getElem? (i := 876) (by decide +kernel), List.mem_of_getElem? (i := 877) (by decide +kernel)⟩
theorem lw_p15 : lw_okq (⟨"SuperDriver$Driver", "addClause", "(LSuperDriver$Node;III)V"⟩, 8) := ⟨⟨by decide +kernel, by decide +kernel⟩, List.mem_of_getElem? (i := 226) (by decide +kernel), List.mem_of_getElem? (i := 881) (by decide +kernel), List.mem_of_getElem? (i := 882) (by decide +kernel)⟩
def lw_privs_1 : List (MethodName × Nat) := [(⟨"java/lang/Throwable", "fillInStackTrace", "(I)Ljava/lang/Throwable;"⟩, 6), (⟨"SuperDriver$SourceProgram", "placeOf", "(II)LSuperDriver$Row;"⟩, 3), (⟨"SuperDriver$Driver", "settleWithoutCall", "(LSuperDriver$Node;)V"⟩, 8), (⟨"SuperDriver$Driver", "embeddedRival", "(LSuperDriver$Node;Z)LSuperDriver$Node;"⟩, 8), (⟨"SuperDriver$Signs", "findEnds", "(LSuperDriver$Row;[I)V"⟩, 5), (⟨"SuperDriver$Signs", "embeddedInParts", "(II)J"⟩, 5), (⟨"SuperDriver$Signs", "couples", "(IIII)Z"⟩, 5), (⟨"SuperDriver$Signs", "isMarked", "(II)Z"⟩, 5), (⟨"SuperDriver$Generaliser", "takeApart", "(LSuperDriver$Row;)V"⟩, 7), (⟨"SuperDriver$Generaliser", "newVariable", "(II)I"⟩, 7), (⟨"SuperDriver$Generaliser", "let", "(LSuperDriver$Node;[I)V"⟩, 7), (⟨"SuperDriver$Generaliser", "takeCommon", "(LSuperDriver$Row;LSuperDriver$Row;)V"⟩, 7), (⟨"SuperDriver$Generaliser", "metBefore", "(LSuperDriver$Row;IILSuperDriver$Row;II)I"⟩, 7), (⟨"SuperDriver$Driver", "step", "(LSuperDriver$Node;I)V"⟩, 8), (⟨"SuperDriver$Driver", "split", "(LSuperDriver$Node;I)V"⟩, 8), (⟨"SuperDriver$Driver", "addClause", "(LSuperDriver$Node;III)V"⟩, 8)]
theorem lw_r1 : ∀ q ∈ lw_privs_1, lw_okq q := List.forall_mem_cons.mpr ⟨lw_p0, List.forall_mem_cons.mpr ⟨lw_p1, List.forall_mem_cons.mpr ⟨lw_p2, List.forall_mem_cons.mpr ⟨lw_p3, List.forall_mem_cons.mpr ⟨lw_p4, List.forall_mem_cons.mpr ⟨lw_p5, List.forall_mem_cons.mpr ⟨lw_p6, List.forall_mem_cons.mpr ⟨lw_p7, List.forall_mem_cons.mpr ⟨lw_p8, List.forall_mem_cons.mpr ⟨lw_p9, List.forall_mem_cons.mpr ⟨lw_p10, List.forall_mem_cons.mpr ⟨lw_p11, List.forall_mem_cons.mpr ⟨lw_p12, List.forall_mem_cons.mpr ⟨lw_p13, List.forall_mem_cons.mpr ⟨lw_p14, List.forall_mem_cons.mpr ⟨lw_p15, fun _ h => absurd h List.not_mem_nil⟩⟩⟩⟩⟩⟩⟩⟩⟩⟩⟩⟩⟩⟩⟩⟩
theorem lw_p16 : lw_okq (⟨"SuperDriver$ResidualProgram", "markFunctions", "()V"⟩, 3) := ⟨⟨by decide +kernel, by decide +kernel⟩, List.mem_of_getElem? (i := 289) (by decide +kernel), List.mem_of_getElem? (i := 897) (by decide +kernel), List.mem_of_getElem? (i := 898) (by decide +kernel)⟩
theorem lw_p17 : lw_okq (⟨"SuperDriver$ResidualProgram", "writeOwnCall", "(LSuperDriver$Node;)V"⟩, 3) := ⟨⟨by decide +kernel, by decide +kernel⟩, List.mem_of_getElem? (i := 289) (by decide +kernel), List.mem_of_getElem? (i := 902) (by decide +kernel), List.mem_of_getElem? (i := 903) (by decide +kernel)⟩
theorem lw_p18 : lw_okq (⟨"SuperDriver$ResidualProgram", "writeInline", "(LSuperDriver$Node;)V"⟩, 3) := ⟨⟨by decide +kernel, by decide +kernel⟩, List.mem_of_getElem? (i := 289) (by decide +kernel), List.mem_of_getElem? (i := 911) (by decide +kernel), List.mem_of_getElem? (i := 912) (by decide +kernel)⟩
theorem lw_p19 : lw_okq (⟨"SuperDriver$ResidualProgram", "writeLet", "(LSuperDriver$Node;)V"⟩, 3) := ⟨⟨by decide +kernel, by decide +kernel⟩, List.mem_of_getElem? (i := 289) (by decide +kernel), List.mem_of_getElem? (i := 923) (by decide +kernel), List.mem_of_getElem? (i := 924) (by decide +kernel)⟩
theorem lw_p20 : lw_okq (⟨"SuperDriver", "allInputsAreThere", "()Z"⟩, 9) := ⟨⟨by decide +kernel, by decide +kernel⟩, List.mem_of_getElem? (i := 23) (by decide +kernel), List.mem_of_getElem? (i := 959) (by decide +kernel), List.mem_of_getElem? (i := 960) (by decide +kernel)⟩
theorem lw_p21 : lw_okq (⟨"SuperDriver$Runner", "judge", "(LSuperDriver$Program;II)I"⟩, 6) := ⟨⟨by decide +kernel, by decide +kernel⟩, List.mem_of_getElem? (i := 301) (by decide +kernel), List.mem_of_getElem? (i := 977) (by decide +kernel), List.mem_of_getElem? (i := 978) (by decide +kernel)⟩
theorem lw_p22 : lw_okq (⟨"SuperDriverModel", "throwing", "(ZZ)Z"⟩, 47) := ⟨⟨by decide +kernel, by decide +kernel⟩, List.mem_of_getElem? (i := 984) (by decide +kernel), List.mem_of_getElem? (i := 1156) (by decide +kernel), List.mem_of_getElem? (i := 1157) (by decide +kernel)⟩
theorem lw_p23 : lw_okq (⟨"SuperDriverModel", "isTerm", "(IZ)Z"⟩, 47) := ⟨⟨by decide +kernel, by decide +kernel⟩, List.mem_of_getElem? (i := 984) (by decide +kernel), List.mem_of_getElem? (i := 1167) (by decide +kernel), List.mem_of_getElem? (i := 1168) (by decide +kernel)⟩
theorem lw_p24 : lw_okq (⟨"SuperDriverModel", "partsOf", "(I)I"⟩, 47) := ⟨⟨by decide +kernel, by decide +kernel⟩, List.mem_of_getElem? (i := 984) (by decide +kernel), List.mem_of_getElem? (i := 1171) (by decide +kernel), List.mem_of_getElem? (i := 1172) (by decide +kernel)⟩
theorem lw_p25 : lw_okq (⟨"SuperDriverModel", "takeText", "([II)I"⟩, 47) := ⟨⟨by decide +kernel, by decide +kernel⟩, List.mem_of_getElem? (i := 984) (by decide +kernel), List.mem_of_getElem? (i := 1175) (by decide +kernel), List.mem_of_getElem? (i := 1176) (by decide +kernel)⟩
theorem lw_p26 : lw_okq (⟨"SuperDriverModel", "add", "(I[III)V"⟩, 47) := ⟨⟨by decide +kernel, by decide +kernel⟩, List.mem_of_getElem? (i := 984) (by decide +kernel), List.mem_of_getElem? (i := 1191) (by decide +kernel), List.mem_of_getElem? (i := 1192) (by decide +kernel)⟩
theorem lw_p27 : lw_okq (⟨"SuperDriverModel", "turn", "(I)V"⟩, 47) := ⟨⟨by decide +kernel, by decide +kernel⟩, List.mem_of_getElem? (i := 984) (by decide +kernel), List.mem_of_getElem? (i := 1195) (by decide +kernel), List.mem_of_getElem? (i := 1196) (by decide +kernel)⟩
theorem lw_p28 : lw_okq (⟨"SuperDriverModel", "becomes", "(II)V"⟩, 47) := ⟨⟨by decide +kernel, by decide +kernel⟩, List.mem_of_getElem? (i := 984) (by decide +kernel), List.mem_of_getElem? (i := 1199) (by decide +kernel), List.mem_of_getElem? (i := 1200) (by decide +kernel)⟩
theorem lw_p29 : lw_okq (⟨"SuperDriverModel", "build", "(I)V"⟩, 47) := ⟨⟨by decide +kernel, by decide +kernel⟩, List.mem_of_getElem? (i := 984) (by decide +kernel), List.mem_of_getElem? (i := 1203) (by decide +kernel), List.mem_of_getElem? (i := 1204) (by decide +kernel)⟩
theorem lw_p30 : lw_okq (⟨"SuperDriverModel", "end", "([II)I"⟩, 47) := ⟨⟨by decide +kernel, by decide +kernel⟩, List.mem_of_getElem? (i := 984) (by decide +kernel), List.mem_of_getElem? (i := 1207) (by decide +kernel), List.mem_of_getElem? (i := 1208) (by decide +kernel)⟩
theorem lw_p31 : lw_okq (⟨"SuperDriverModel", "load", "(I)V"⟩, 47) := ⟨⟨by decide +kernel, by decide +kernel⟩, List.mem_of_getElem? (i := 984) (by decide +kernel), List.mem_of_getElem? (i := 1211) (by decide +kernel), List.mem_of_getElem? (i := 1212) (by decide +kernel)⟩
def lw_privs_2 : List (MethodName × Nat) := [(⟨"SuperDriver$ResidualProgram", "markFunctions", "()V"⟩, 3), (⟨"SuperDriver$ResidualProgram", "writeOwnCall", "(LSuperDriver$Node;)V"⟩, 3), (⟨"SuperDriver$ResidualProgram", "writeInline", "(LSuperDriver$Node;)V"⟩, 3), (⟨"SuperDriver$ResidualProgram", "writeLet", "(LSuperDriver$Node;)V"⟩, 3), (⟨"SuperDriver", "allInputsAreThere", "()Z"⟩, 9), (⟨"SuperDriver$Runner", "judge", "(LSuperDriver$Program;II)I"⟩, 6), (⟨"SuperDriverModel", "throwing", "(ZZ)Z"⟩, 47), (⟨"SuperDriverModel", "isTerm", "(IZ)Z"⟩, 47), (⟨"SuperDriverModel", "partsOf", "(I)I"⟩, 47), (⟨"SuperDriverModel", "takeText", "([II)I"⟩, 47), (⟨"SuperDriverModel", "add", "(I[III)V"⟩, 47), (⟨"SuperDriverModel", "turn", "(I)V"⟩, 47), (⟨"SuperDriverModel", "becomes", "(II)V"⟩, 47), (⟨"SuperDriverModel", "build", "(I)V"⟩, 47), (⟨"SuperDriverModel", "end", "([II)I"⟩, 47), (⟨"SuperDriverModel", "load", "(I)V"⟩, 47)]
theorem lw_r2 : ∀ q ∈ lw_privs_2, lw_okq q := List.forall_mem_cons.mpr ⟨lw_p16, List.forall_mem_cons.mpr ⟨lw_p17, List.forall_mem_cons.mpr ⟨lw_p18, List.forall_mem_cons.mpr ⟨lw_p19, List.forall_mem_cons.mpr ⟨lw_p20, List.forall_mem_cons.mpr ⟨lw_p21, List.forall_mem_cons.mpr ⟨lw_p22, List.forall_mem_cons.mpr ⟨lw_p23, List.forall_mem_cons.mpr ⟨lw_p24, List.forall_mem_cons.mpr ⟨lw_p25, List.forall_mem_cons.mpr ⟨lw_p26, List.forall_mem_cons.mpr ⟨lw_p27, List.forall_mem_cons.mpr ⟨lw_p28, List.forall_mem_cons.mpr ⟨lw_p29, List.forall_mem_cons.mpr ⟨lw_p30, List.forall_mem_cons.mpr ⟨lw_p31, fun _ h => absurd h List.not_mem_nil⟩⟩⟩⟩⟩⟩⟩⟩⟩⟩⟩⟩⟩⟩⟩⟩
theorem lw_p32 : lw_okq (⟨"SuperDriverModel", "nextCall", "()I"⟩, 47) := ⟨⟨by decide +kernel, by decide +kernel⟩, List.mem_of_getElem? (i := 984) (by decide +kernel), List.mem_of_getElem? (i := 1215) (by decide +kernel), List.mem_of_getElem? (i := 1216) (by decide +kernel)⟩
theorem lw_p33 : lw_okq (⟨"SuperDriverModel", "isCased", "(I)Z"⟩, 47) := ⟨⟨by decide +kernel, by decide +kernel⟩, List.mem_of_getElem? (i := 984) (by decide +kernel), List.mem_of_getElem? (i := 1219) (by decide +kernel), List.mem_of_getElem? (i := 1220) (by decide +kernel)⟩
theorem lw_p34 : lw_okq (⟨"SuperDriverModel", "bodyOf", "(I)I"⟩, 47) := ⟨⟨by decide +kernel, by decide +kernel⟩, List.mem_of_getElem? (i := 984) (by decide +kernel), List.mem_of_getElem? (i := 1223) (by decide +kernel), List.mem_of_getElem? (i := 1224) (by decide +kernel)⟩
theorem lw_p35 : lw_okq (⟨"SuperDriverModel", "rival", "(IZZ)I"⟩, 47) := ⟨⟨by decide +kernel, by decide +kernel⟩, List.mem_of_getElem? (i := 984) (by decide +kernel), List.mem_of_getElem? (i := 1227) (by decide +kernel), List.mem_of_getElem? (i := 1228) (by decide +kernel)⟩
theorem lw_p36 : lw_okq (⟨"SuperDriverModel", "isEmbedded", "(II)Z"⟩, 47) := ⟨⟨by decide +kernel, by decide +kernel⟩, List.mem_of_getElem? (i := 984) (by decide +kernel), List.mem_of_getElem? (i := 1231) (by decide +kernel), List.mem_of_getElem? (i := 1232) (by decide +kernel)⟩
theorem lw_p37 : lw_okq (⟨"SuperDriverModel", "areParts", "(IIIII)Z"⟩, 47) := ⟨⟨by decide +kernel, by decide +kernel⟩, List.mem_of_getElem? (i := 984) (by decide +kernel), List.mem_of_getElem? (i := 1235) (by decide +kernel), List.mem_of_getElem? (i := 1236) (by decide +kernel)⟩
theorem lw_p38 : lw_okq (⟨"SuperDriverModel", "isRenaming", "(II)Z"⟩, 47) := ⟨⟨by decide +kernel, by decide +kernel⟩, List.mem_of_getElem? (i := 984) (by decide +kernel), List.mem_of_getElem? (i := 1239) (by decide +kernel), List.mem_of_getElem? (i := 1240) (by decide +kernel)⟩
theorem lw_p39 : lw_okq (⟨"SuperDriverModel", "renames", "([III[III)Z"⟩, 47) := ⟨⟨by decide +kernel, by decide +kernel⟩, List.mem_of_getElem? (i := 984) (by decide +kernel), List.mem_of_getElem? (i := 1243) (by decide +kernel), List.mem_of_getElem? (i := 1244) (by decide +kernel)⟩
theorem lw_p40 : lw_okq (⟨"SuperDriverModel", "generalise", "(II)V"⟩, 47) := ⟨⟨by decide +kernel, by decide +kernel⟩, List.mem_of_getElem? (i := 984) (by decide +kernel), List.mem_of_getElem? (i := 1247) (by decide +kernel), List.mem_of_getElem? (i := 1248) (by decide +kernel)⟩
theorem lw_p41 : lw_okq (⟨"SuperDriverModel", "renew", "(I)I"⟩, 47) := ⟨⟨by decide +kernel, by decide +kernel⟩, List.mem_of_getElem? (i := 984) (by decide +kernel), List.mem_of_getElem? (i := 1251) (by decide +kernel), List.mem_of_getElem? (i := 1252) (by decide +kernel)⟩
theorem lw_p42 : lw_okq (⟨"SuperDriverModel", "differ", "(III)V"⟩, 47) := ⟨⟨by decide +kernel, by decide +kernel⟩, List.mem_of_getElem? (i := 984) (by decide +kernel), List.mem_of_getElem? (i := 1255) (by decide +kernel), List.mem_of_getElem? (i := 1256) (by decide +kernel)⟩
theorem lw_p43 : lw_okq (⟨"SuperDriverModel", "alike", "([II[III)Z"⟩, 47) := ⟨⟨by decide +kernel, by decide +kernel⟩, List.mem_of_getElem? (i := 984) (by decide +kernel), List.mem_of_getElem? (i := 1259) (by decide +kernel), List.mem_of_getElem? (i := 1260) (by decide +kernel)⟩
theorem lw_p44 : lw_okq (⟨"SuperDriverModel", "goBelow", "(I)V"⟩, 47) := ⟨⟨by decide +kernel, by decide +kernel⟩, List.mem_of_getElem? (i := 984) (by decide +kernel), List.mem_of_getElem? (i := 1263) (by decide +kernel), List.mem_of_getElem? (i := 1264) (by decide +kernel)⟩
theorem lw_p45 : lw_okq (⟨"SuperDriverModel", "let", "(II[I)V"⟩, 47) := ⟨⟨by decide +kernel, by decide +kernel⟩, List.mem_of_getElem? (i := 984) (by decide +kernel), List.mem_of_getElem? (i := 1267) (by decide +kernel), List.mem_of_getElem? (i := 1268) (by decide +kernel)⟩
theorem lw_p46 : lw_okq (⟨"SuperDriverModel", "unfold", "(I)V"⟩, 47) := ⟨⟨by decide +kernel, by decide +kernel⟩, List.mem_of_getElem? (i := 984) (by decide +kernel), List.mem_of_getElem? (i := 1271) (by decide +kernel), List.mem_of_getElem? (i := 1272) (by decide +kernel)⟩
theorem lw_p47 : lw_okq (⟨"SuperDriverModel", "bind", "(II)I"⟩, 47) := ⟨⟨by decide +kernel, by decide +kernel⟩, List.mem_of_getElem? (i := 984) (by decide +kernel), List.mem_of_getElem? (i := 1275) (by decide +kernel), List.mem_of_getElem? (i := 1276) (by decide +kernel)⟩
def lw_privs_3 : List (MethodName × Nat) := [(⟨"SuperDriverModel", "nextCall", "()I"⟩, 47), (⟨"SuperDriverModel", "isCased", "(I)Z"⟩, 47), (⟨"SuperDriverModel", "bodyOf", "(I)I"⟩, 47), (⟨"SuperDriverModel", "rival", "(IZZ)I"⟩, 47), (⟨"SuperDriverModel", "isEmbedded", "(II)Z"⟩, 47), (⟨"SuperDriverModel", "areParts", "(IIIII)Z"⟩, 47), (⟨"SuperDriverModel", "isRenaming", "(II)Z"⟩, 47), (⟨"SuperDriverModel", "renames", "([III[III)Z"⟩, 47), (⟨"SuperDriverModel", "generalise", "(II)V"⟩, 47), (⟨"SuperDriverModel", "renew", "(I)I"⟩, 47), (⟨"SuperDriverModel", "differ", "(III)V"⟩, 47), (⟨"SuperDriverModel", "alike", "([II[III)Z"⟩, 47), (⟨"SuperDriverModel", "goBelow", "(I)V"⟩, 47), (⟨"SuperDriverModel", "let", "(II[I)V"⟩, 47), (⟨"SuperDriverModel", "unfold", "(I)V"⟩, 47), (⟨"SuperDriverModel", "bind", "(II)I"⟩, 47)]
theorem lw_r3 : ∀ q ∈ lw_privs_3, lw_okq q := List.forall_mem_cons.mpr ⟨lw_p32, List.forall_mem_cons.mpr ⟨lw_p33, List.forall_mem_cons.mpr ⟨lw_p34, List.forall_mem_cons.mpr ⟨lw_p35, List.forall_mem_cons.mpr ⟨lw_p36, List.forall_mem_cons.mpr ⟨lw_p37, List.forall_mem_cons.mpr ⟨lw_p38, List.forall_mem_cons.mpr ⟨lw_p39, List.forall_mem_cons.mpr ⟨lw_p40, List.forall_mem_cons.mpr ⟨lw_p41, List.forall_mem_cons.mpr ⟨lw_p42, List.forall_mem_cons.mpr ⟨lw_p43, List.forall_mem_cons.mpr ⟨lw_p44, List.forall_mem_cons.mpr ⟨lw_p45, List.forall_mem_cons.mpr ⟨lw_p46, List.forall_mem_cons.mpr ⟨lw_p47, fun _ h => absurd h List.not_mem_nil⟩⟩⟩⟩⟩⟩⟩⟩⟩⟩⟩⟩⟩⟩⟩⟩
theorem lw_p48 : lw_okq (⟨"SuperDriverModel", "stand", "(II)I"⟩, 47) := ⟨⟨by decide +kernel, by decide +kernel⟩, List.mem_of_getElem? (i := 984) (by decide +kernel), List.mem_of_getElem? (i := 1279) (by decide +kernel), List.mem_of_getElem? (i := 1280) (by decide +kernel)⟩
theorem lw_p49 : lw_okq (⟨"SuperDriverModel", "split", "(II)V"⟩, 47) := ⟨⟨by decide +kernel, by decide +kernel⟩, List.mem_of_getElem? (i := 984) (by decide +kernel), List.mem_of_getElem? (i := 1283) (by decide +kernel), List.mem_of_getElem? (i := 1284) (by decide +kernel)⟩
theorem lw_p50 : lw_okq (⟨"SuperDriverModel", "lowestOpen", "()I"⟩, 47) := ⟨⟨by decide +kernel, by decide +kernel⟩, List.mem_of_getElem? (i := 984) (by decide +kernel), List.mem_of_getElem? (i := 1287) (by decide +kernel), List.mem_of_getElem? (i := 1288) (by decide +kernel)⟩
theorem lw_p51 : lw_okq (⟨"SuperDriverModel", "findFunctions", "()V"⟩, 47) := ⟨⟨by decide +kernel, by decide +kernel⟩, List.mem_of_getElem? (i := 984) (by decide +kernel), List.mem_of_getElem? (i := 1291) (by decide +kernel), List.mem_of_getElem? (i := 1292) (by decide +kernel)⟩
theorem lw_p52 : lw_okq (⟨"SuperDriverModel", "hold", "(II)V"⟩, 47) := ⟨⟨by decide +kernel, by decide +kernel⟩, List.mem_of_getElem? (i := 984) (by decide +kernel), List.mem_of_getElem? (i := 1295) (by decide +kernel), List.mem_of_getElem? (i := 1296) (by decide +kernel)⟩
theorem lw_p53 : lw_okq (⟨"SuperDriverModel", "write", "(I)V"⟩, 47) := ⟨⟨by decide +kernel, by decide +kernel⟩, List.mem_of_getElem? (i := 984) (by decide +kernel), List.mem_of_getElem? (i := 1299) (by decide +kernel), List.mem_of_getElem? (i := 1300) (by decide +kernel)⟩
theorem lw_p54 : lw_okq (⟨"SuperDriverModel", "putCall", "(I)V"⟩, 47) := ⟨⟨by decide +kernel, by decide +kernel⟩, List.mem_of_getElem? (i := 984) (by decide +kernel), List.mem_of_getElem? (i := 1303) (by decide +kernel), List.mem_of_getElem? (i := 1304) (by decide +kernel)⟩
theorem lw_p55 : lw_okq (⟨"SuperDriverModel", "put", "(I)V"⟩, 47) := ⟨⟨by decide +kernel, by decide +kernel⟩, List.mem_of_getElem? (i := 984) (by decide +kernel), List.mem_of_getElem? (i := 1307) (by decide +kernel), List.mem_of_getElem? (i := 1308) (by decide +kernel)⟩
theorem lw_p56 : lw_okq (⟨"SuperDriverModel", "putResidual", "(I)V"⟩, 47) := ⟨⟨by decide +kernel, by decide +kernel⟩, List.mem_of_getElem? (i := 984) (by decide +kernel), List.mem_of_getElem? (i := 1311) (by decide +kernel), List.mem_of_getElem? (i := 1312) (by decide +kernel)⟩
theorem lw_p57 : lw_okq (⟨"SuperDriverModel", "isNode", "(I)Z"⟩, 47) := ⟨⟨by decide +kernel, by decide +kernel⟩, List.mem_of_getElem? (i := 984) (by decide +kernel), List.mem_of_getElem? (i := 1319) (by decide +kernel), List.mem_of_getElem? (i := 1320) (by decide +kernel)⟩
theorem lw_p58 : lw_okq (⟨"SuperDriverModel", "hasInputs", "()Z"⟩, 47) := ⟨⟨by decide +kernel, by decide +kernel⟩, List.mem_of_getElem? (i := 984) (by decide +kernel), List.mem_of_getElem? (i := 1335) (by decide +kernel), List.mem_of_getElem? (i := 1336) (by decide +kernel)⟩
theorem lw_p59 : lw_okq (⟨"SuperDriverModel", "begin", "(Z)V"⟩, 47) := ⟨⟨by decide +kernel, by decide +kernel⟩, List.mem_of_getElem? (i := 984) (by decide +kernel), List.mem_of_getElem? (i := 1339) (by decide +kernel), List.mem_of_getElem? (i := 1340) (by decide +kernel)⟩
def lw_privs_4 : List (MethodName × Nat) := [(⟨"SuperDriverModel", "stand", "(II)I"⟩, 47), (⟨"SuperDriverModel", "split", "(II)V"⟩, 47), (⟨"SuperDriverModel", "lowestOpen", "()I"⟩, 47), (⟨"SuperDriverModel", "findFunctions", "()V"⟩, 47), (⟨"SuperDriverModel", "hold", "(II)V"⟩, 47), (⟨"SuperDriverModel", "write", "(I)V"⟩, 47), (⟨"SuperDriverModel", "putCall", "(I)V"⟩, 47), (⟨"SuperDriverModel", "put", "(I)V"⟩, 47), (⟨"SuperDriverModel", "putResidual", "(I)V"⟩, 47), (⟨"SuperDriverModel", "isNode", "(I)Z"⟩, 47), (⟨"SuperDriverModel", "hasInputs", "()Z"⟩, 47), (⟨"SuperDriverModel", "begin", "(Z)V"⟩, 47)]
theorem lw_r4 : ∀ q ∈ lw_privs_4, lw_okq q := List.forall_mem_cons.mpr ⟨lw_p48, List.forall_mem_cons.mpr ⟨lw_p49, List.forall_mem_cons.mpr ⟨lw_p50, List.forall_mem_cons.mpr ⟨lw_p51, List.forall_mem_cons.mpr ⟨lw_p52, List.forall_mem_cons.mpr ⟨lw_p53, List.forall_mem_cons.mpr ⟨lw_p54, List.forall_mem_cons.mpr ⟨lw_p55, List.forall_mem_cons.mpr ⟨lw_p56, List.forall_mem_cons.mpr ⟨lw_p57, List.forall_mem_cons.mpr ⟨lw_p58, List.forall_mem_cons.mpr ⟨lw_p59, fun _ h => absurd h List.not_mem_nil⟩⟩⟩⟩⟩⟩⟩⟩⟩⟩⟩⟩
def lw_privs : List (MethodName × Nat) := lw_privs_1 ++ (lw_privs_2 ++ (lw_privs_3 ++ (lw_privs_4)))
def lw_tbl : List Cond := k2_sels lw_privs ++ tables_1
theorem lw_privs_ok : ∀ q ∈ lw_privs, lw_okq q := by
  show ∀ q ∈ lw_privs_1 ++ (lw_privs_2 ++ (lw_privs_3 ++ (lw_privs_4))), lw_okq q
  exact List.forall_mem_append.mpr ⟨lw_r1, List.forall_mem_append.mpr ⟨lw_r2, List.forall_mem_append.mpr ⟨lw_r3, lw_r4⟩⟩⟩
end
section
abbrev Mth : Type := MethodName × ByteArray × Nat × Option FieldType × Option (List (Nat × Nat × Nat × Nat))
def R_SD : String := "SuperDriver"
def T_SD : u_T := fun k => match k with
  | 0 => ("SuperDriver", "text", "LSuperDriver$Row;", true)
  | 1 => ("SuperDriver", "goal", "LSuperDriver$Row;", true)
  | 2 => ("SuperDriver", "inputs", "[LSuperDriver$Row;", true)
  | 3 => ("SuperDriver", "signs", "LSuperDriver$Signs;", true)
  | 4 => ("SuperDriver", "source", "LSuperDriver$SourceProgram;", true)
  | 5 => ("SuperDriver", "tree", "LSuperDriver$Tree;", true)
  | 6 => ("SuperDriver", "driver", "LSuperDriver$Driver;", true)
  | 7 => ("SuperDriver", "residue", "LSuperDriver$ResidualProgram;", true)
  | _ => ("SuperDriver", "runner", "LSuperDriver$Runner;", true)
def ty_SD : Nat → FieldType := fun k => match k with
  | 0 => (.object "SuperDriver$Row")
  | 1 => (.object "SuperDriver$Row")
  | 2 => (.array (.object "SuperDriver$Row"))
  | 3 => (.object "SuperDriver$Signs")
  | 4 => (.object "SuperDriver$SourceProgram")
  | 5 => (.object "SuperDriver$Tree")
  | 6 => (.object "SuperDriver$Driver")
  | 7 => (.object "SuperDriver$ResidualProgram")
  | _ => (.object "SuperDriver$Runner")
def R_Row : String := "SuperDriver$Row"
def T_Row : u_T := fun k => match k with
  | 0 => ("SuperDriver$Row", "held", "[I", true)
  | 1 => ("SuperDriver$Row", "length", "I", false)
  | _ => ("SuperDriver$Row", "tooLong", "Z", false)
def ty_Row : Nat → FieldType := fun k => match k with
  | 0 => (.array .int)
  | 1 => .int
  | _ => .boolean
def R_Substitution : String := "SuperDriver$Substitution"
def T_Substitution : u_T := fun k => match k with
  | 0 => ("SuperDriver$Substitution", "rows", "[LSuperDriver$Row;", true)
  | 1 => ("SuperDriver$Substitution", "starts", "[I", true)
  | 2 => ("SuperDriver$Substitution", "ends", "[I", true)
  | 3 => ("SuperDriver$Substitution", "stamps", "[I", true)
  | _ => ("SuperDriver$Substitution", "stamp", "I", false)
def ty_Substitution : Nat → FieldType := fun k => match k with
  | 0 => (.array (.object "SuperDriver$Row"))
  | 1 => (.array .int)
  | 2 => (.array .int)
  | 3 => (.array .int)
  | _ => .int
def R_Signs : String := "SuperDriver$Signs"
def T_Signs : u_T := fun k => match k with
  | 0 => ("SuperDriver$Signs", "parts", "[I", true)
  | 1 => ("SuperDriver$Signs", "cased", "[Z", true)
  | 2 => ("SuperDriver$Signs", "innerEnds", "[I", true)
  | 3 => ("SuperDriver$Signs", "outerEnds", "[I", true)
  | _ => ("SuperDriver$Signs", "embedded", "[J", true)
def ty_Signs : Nat → FieldType := fun k => match k with
  | 0 => (.array .int)
  | 1 => (.array .boolean)
  | 2 => (.array .int)
  | 3 => (.array .int)
  | _ => (.array .long)
def R_SourceProgram : String := "SuperDriver$SourceProgram"
def T_SourceProgram : u_T := fun k => match k with
  | 0 => ("SuperDriver$SourceProgram", "bodies", "[LSuperDriver$Row;", true)
  | 1 => ("SuperDriver$Program", "signs", "LSuperDriver$Signs;", true)
  | _ => ("SuperDriver$Program", "change", "LSuperDriver$Substitution;", true)
def ty_SourceProgram : Nat → FieldType := fun k => match k with
  | 0 => (.array (.object "SuperDriver$Row"))
  | 1 => (.object "SuperDriver$Signs")
  | _ => (.object "SuperDriver$Substitution")
def R_Tree : String := "SuperDriver$Tree"
def T_Tree : u_T := fun k => match k with
  | 0 => ("SuperDriver$Tree", "nodes", "[LSuperDriver$Node;", true)
  | 1 => ("SuperDriver$Tree", "count", "I", false)
  | 2 => ("SuperDriver$Tree", "nextVariable", "I", false)
  | _ => ("SuperDriver$Tree", "tooGreat", "Z", false)
def ty_Tree : Nat → FieldType := fun k => match k with
  | 0 => (.array (.object "SuperDriver$Node"))
  | 1 => .int
  | 2 => .int
  | _ => .boolean
def R_Node : String := "SuperDriver$Node"
def T_Node : u_T := fun k => match k with
  | 0 => ("SuperDriver$Node", "number", "I", true)
  | 1 => ("SuperDriver$Node", "term", "LSuperDriver$Row;", true)
  | 2 => ("SuperDriver$Node", "residual", "LSuperDriver$Row;", true)
  | 3 => ("SuperDriver$Node", "above", "LSuperDriver$Node;", false)
  | 4 => ("SuperDriver$Node", "firstBelow", "LSuperDriver$Node;", false)
  | 5 => ("SuperDriver$Node", "lastBelow", "LSuperDriver$Node;", false)
  | 6 => ("SuperDriver$Node", "beside", "LSuperDriver$Node;", false)
  | 7 => ("SuperDriver$Node", "kind", "I", false)
  | 8 => ("SuperDriver$Node", "detail", "I", false)
  | 9 => ("SuperDriver$Node", "target", "LSuperDriver$Node;", false)
  | 10 => ("SuperDriver$Node", "functional", "Z", false)
  | 11 => ("SuperDriver$Node", "clause", "I", false)
  | 12 => ("SuperDriver$Node", "clauseVariable", "I", false)
  | _ => ("SuperDriver$Node", "letVariable", "I", false)
def ty_Node : Nat → FieldType := fun k => match k with
  | 0 => .int
  | 1 => (.object "SuperDriver$Row")
  | 2 => (.object "SuperDriver$Row")
  | 3 => (.object "SuperDriver$Node")
  | 4 => (.object "SuperDriver$Node")
  | 5 => (.object "SuperDriver$Node")
  | 6 => (.object "SuperDriver$Node")
  | 7 => .int
  | 8 => .int
  | 9 => (.object "SuperDriver$Node")
  | 10 => .boolean
  | 11 => .int
  | 12 => .int
  | _ => .int
def R_Driver : String := "SuperDriver$Driver"
def T_Driver : u_T := fun k => match k with
  | 0 => ("SuperDriver$Driver", "signs", "LSuperDriver$Signs;", true)
  | 1 => ("SuperDriver$Driver", "source", "LSuperDriver$Program;", true)
  | 2 => ("SuperDriver$Driver", "tree", "LSuperDriver$Tree;", true)
  | 3 => ("SuperDriver$Driver", "change", "LSuperDriver$Substitution;", true)
  | 4 => ("SuperDriver$Driver", "generaliser", "LSuperDriver$Generaliser;", true)
  | 5 => ("SuperDriver$Driver", "unfolded", "LSuperDriver$Row;", true)
  | 6 => ("SuperDriver$Driver", "replaced", "LSuperDriver$Row;", true)
  | _ => ("SuperDriver$Driver", "pattern", "LSuperDriver$Row;", true)
def ty_Driver : Nat → FieldType := fun k => match k with
  | 0 => (.object "SuperDriver$Signs")
  | 1 => (.object "SuperDriver$Program")
  | 2 => (.object "SuperDriver$Tree")
  | 3 => (.object "SuperDriver$Substitution")
  | 4 => (.object "SuperDriver$Generaliser")
  | 5 => (.object "SuperDriver$Row")
  | 6 => (.object "SuperDriver$Row")
  | _ => (.object "SuperDriver$Row")
def R_Generaliser : String := "SuperDriver$Generaliser"
def T_Generaliser : u_T := fun k => match k with
  | 0 => ("SuperDriver$Generaliser", "signs", "LSuperDriver$Signs;", true)
  | 1 => ("SuperDriver$Generaliser", "tree", "LSuperDriver$Tree;", true)
  | 2 => ("SuperDriver$Generaliser", "general", "LSuperDriver$Row;", true)
  | 3 => ("SuperDriver$Generaliser", "upperStarts", "[I", true)
  | 4 => ("SuperDriver$Generaliser", "lowerStarts", "[I", true)
  | 5 => ("SuperDriver$Generaliser", "count", "I", false)
  | _ => ("SuperDriver$Generaliser", "firstVariable", "I", false)
def ty_Generaliser : Nat → FieldType := fun k => match k with
  | 0 => (.object "SuperDriver$Signs")
  | 1 => (.object "SuperDriver$Tree")
  | 2 => (.object "SuperDriver$Row")
  | 3 => (.array .int)
  | 4 => (.array .int)
  | 5 => .int
  | _ => .int
def R_ResidualProgram : String := "SuperDriver$ResidualProgram"
def T_ResidualProgram : u_T := fun k => match k with
  | 0 => ("SuperDriver$ResidualProgram", "tree", "LSuperDriver$Tree;", true)
  | 1 => ("SuperDriver$Program", "signs", "LSuperDriver$Signs;", true)
  | _ => ("SuperDriver$Program", "change", "LSuperDriver$Substitution;", true)
def ty_ResidualProgram : Nat → FieldType := fun k => match k with
  | 0 => (.object "SuperDriver$Tree")
  | 1 => (.object "SuperDriver$Signs")
  | _ => (.object "SuperDriver$Substitution")
def R_Runner : String := "SuperDriver$Runner"
def T_Runner : u_T := fun k => match k with
  | 0 => ("SuperDriver$Runner", "signs", "LSuperDriver$Signs;", true)
  | 1 => ("SuperDriver$Runner", "change", "LSuperDriver$Substitution;", true)
  | 2 => ("SuperDriver$Runner", "row", "LSuperDriver$Row;", false)
  | 3 => ("SuperDriver$Runner", "spare", "LSuperDriver$Row;", false)
  | 4 => ("SuperDriver$Runner", "ended", "I", false)
  | _ => ("SuperDriver$Runner", "made", "I", false)
def ty_Runner : Nat → FieldType := fun k => match k with
  | 0 => (.object "SuperDriver$Signs")
  | 1 => (.object "SuperDriver$Substitution")
  | 2 => (.object "SuperDriver$Row")
  | 3 => (.object "SuperDriver$Row")
  | 4 => .int
  | _ => .int
def R_Mo : String := "SuperDriverModel"
def T_Mo : u_T := fun k => match k with
  | 0 => ("SuperDriverModel", "thrown", "I", false)
  | 1 => ("SuperDriverModel", "size", "I", false)
  | 2 => ("SuperDriverModel", "text", "[I", true)
  | 3 => ("SuperDriverModel", "parts", "[I", true)
  | 4 => ("SuperDriverModel", "cased", "[Z", true)
  | 5 => ("SuperDriverModel", "bodies", "[I", true)
  | 6 => ("SuperDriverModel", "bodySize", "[I", true)
  | 7 => ("SuperDriverModel", "goalSize", "I", false)
  | 8 => ("SuperDriverModel", "goal", "[I", true)
  | 9 => ("SuperDriverModel", "inputs", "[I", true)
  | 10 => ("SuperDriverModel", "inputSize", "[I", true)
  | 11 => ("SuperDriverModel", "tree", "Z", false)
  | 12 => ("SuperDriverModel", "great", "Z", false)
  | 13 => ("SuperDriverModel", "nodes", "I", false)
  | 14 => ("SuperDriverModel", "variables", "I", false)
  | 15 => ("SuperDriverModel", "kind", "[I", true)
  | 16 => ("SuperDriverModel", "above", "[I", true)
  | 17 => ("SuperDriverModel", "terms", "[I", true)
  | 18 => ("SuperDriverModel", "termSize", "[I", true)
  | 19 => ("SuperDriverModel", "about", "[I", true)
  | 20 => ("SuperDriverModel", "below", "[I", true)
  | 21 => ("SuperDriverModel", "many", "[I", true)
  | 22 => ("SuperDriverModel", "fresh", "[I", true)
  | 23 => ("SuperDriverModel", "built", "[I", true)
  | 24 => ("SuperDriverModel", "born", "[I", true)
  | 25 => ("SuperDriverModel", "hasFunction", "[Z", true)
  | 26 => ("SuperDriverModel", "parameter", "[I", true)
  | 27 => ("SuperDriverModel", "parameters", "[I", true)
  | 28 => ("SuperDriverModel", "residuals", "[I", true)
  | 29 => ("SuperDriverModel", "residualSize", "[I", true)
  | 30 => ("SuperDriverModel", "rowSize", "I", false)
  | 31 => ("SuperDriverModel", "row", "[I", true)
  | 32 => ("SuperDriverModel", "other", "[I", true)
  | 33 => ("SuperDriverModel", "standsFrom", "[I", true)
  | 34 => ("SuperDriverModel", "standsTo", "[I", true)
  | 35 => ("SuperDriverModel", "into", "[I", true)
  | 36 => ("SuperDriverModel", "back", "[I", true)
  | 37 => ("SuperDriverModel", "embedded", "[Z", true)
  | 38 => ("SuperDriverModel", "commonSize", "I", false)
  | 39 => ("SuperDriverModel", "common", "[I", true)
  | 40 => ("SuperDriverModel", "pairs", "I", false)
  | 41 => ("SuperDriverModel", "upper", "[I", true)
  | 42 => ("SuperDriverModel", "lower", "[I", true)
  | 43 => ("SuperDriverModel", "ended", "I", false)
  | 44 => ("SuperDriverModel", "steps", "I", false)
  | 45 => ("SuperDriverModel", "resultSize", "I", false)
  | _ => ("SuperDriverModel", "result", "[I", true)
def ty_Mo : Nat → FieldType := fun k => match k with
  | 0 => .int
  | 1 => .int
  | 2 => (.array .int)
  | 3 => (.array .int)
  | 4 => (.array .boolean)
  | 5 => (.array .int)
  | 6 => (.array .int)
  | 7 => .int
  | 8 => (.array .int)
  | 9 => (.array .int)
  | 10 => (.array .int)
  | 11 => .boolean
  | 12 => .boolean
  | 13 => .int
  | 14 => .int
  | 15 => (.array .int)
  | 16 => (.array .int)
  | 17 => (.array .int)
  | 18 => (.array .int)
  | 19 => (.array .int)
  | 20 => (.array .int)
  | 21 => (.array .int)
  | 22 => (.array .int)
  | 23 => (.array .int)
  | 24 => (.array .int)
  | 25 => (.array .boolean)
  | 26 => (.array .int)
  | 27 => (.array .int)
  | 28 => (.array .int)
  | 29 => (.array .int)
  | 30 => .int
  | 31 => (.array .int)
  | 32 => (.array .int)
  | 33 => (.array .int)
  | 34 => (.array .int)
  | 35 => (.array .int)
  | 36 => (.array .int)
  | 37 => (.array .boolean)
  | 38 => .int
  | 39 => (.array .int)
  | 40 => .int
  | 41 => (.array .int)
  | 42 => (.array .int)
  | 43 => .int
  | 44 => .int
  | 45 => .int
  | _ => (.array .int)
def vwCl : List vw_C := [(R_SD, T_SD, 9), (R_Row, T_Row, 3), (R_Substitution, T_Substitution, 5), (R_Signs, T_Signs, 5), (R_SourceProgram, T_SourceProgram, 3), (R_Tree, T_Tree, 4), (R_Node, T_Node, 14), (R_Driver, T_Driver, 8), (R_Generaliser, T_Generaliser, 7), (R_ResidualProgram, T_ResidualProgram, 3), (R_Runner, T_Runner, 6), (R_Mo, T_Mo, 47)]
def tyOf : Nat → Nat → FieldType := fun ci => match ci with
  | 0 => ty_SD
  | 1 => ty_Row
  | 2 => ty_Substitution
  | 3 => ty_Signs
  | 4 => ty_SourceProgram
  | 5 => ty_Tree
  | 6 => ty_Node
  | 7 => ty_Driver
  | 8 => ty_Generaliser
  | 9 => ty_ResidualProgram
  | 10 => ty_Runner
  | _ => ty_Mo
def ctyp : Nat → FieldType := fun t => match t with
  | 1 => .int
  | 2 => .boolean
  | 3 => .long
  | 4 => .object "SuperDriver$Row"
  | _ => .object "SuperDriver$Node"
def NTY : Nat := 6
theorem NTY9 : NTY ≤ 9 := by decide
theorem NTY4 : 4 ≤ NTY := by decide
def tysL (CA : Nat → ClassId) : List (ClassId × FieldType) := (List.range 5).map (fun i => (CA (i + 1), ctyp (i + 1)))
theorem ctyp_ref {t : Nat} (h1 : 4 ≤ t) (h2 : t < NTY) : (ctyp t).isReference = true := by
  have h2 : t < 6 := h2
  rcases (show t = 4 ∨ t = 5 by omega) with rfl | rfl <;> rfl
theorem tb1_in {i : Nat} {w : Cond} (h : tables_1_1[i]? = some w) : w ∈ lw_tbl := List.mem_append_right _ (show w ∈ tables_1_1 ++ (tables_1_2 ++ (tables_1_3 ++ (tables_1_4 ++ (tables_1_5 ++ (tables_1_6))))) from (List.mem_append_left _ (List.mem_of_getElem? h)))
theorem tb2_in {i : Nat} {w : Cond} (h : tables_1_2[i]? = some w) : w ∈ lw_tbl := List.mem_append_right _ (show w ∈ tables_1_1 ++ (tables_1_2 ++ (tables_1_3 ++ (tables_1_4 ++ (tables_1_5 ++ (tables_1_6))))) from (List.mem_append_right _ (List.mem_append_left _ (List.mem_of_getElem? h))))
theorem tb3_in {i : Nat} {w : Cond} (h : tables_1_3[i]? = some w) : w ∈ lw_tbl := List.mem_append_right _ (show w ∈ tables_1_1 ++ (tables_1_2 ++ (tables_1_3 ++ (tables_1_4 ++ (tables_1_5 ++ (tables_1_6))))) from (List.mem_append_right _ (List.mem_append_right _ (List.mem_append_left _ (List.mem_of_getElem? h)))))
theorem tb4_in {i : Nat} {w : Cond} (h : tables_1_4[i]? = some w) : w ∈ lw_tbl := List.mem_append_right _ (show w ∈ tables_1_1 ++ (tables_1_2 ++ (tables_1_3 ++ (tables_1_4 ++ (tables_1_5 ++ (tables_1_6))))) from (List.mem_append_right _ (List.mem_append_right _ (List.mem_append_right _ (List.mem_append_left _ (List.mem_of_getElem? h))))))
theorem tb5_in {i : Nat} {w : Cond} (h : tables_1_5[i]? = some w) : w ∈ lw_tbl := List.mem_append_right _ (show w ∈ tables_1_1 ++ (tables_1_2 ++ (tables_1_3 ++ (tables_1_4 ++ (tables_1_5 ++ (tables_1_6))))) from (List.mem_append_right _ (List.mem_append_right _ (List.mem_append_right _ (List.mem_append_right _ (List.mem_append_left _ (List.mem_of_getElem? h)))))))
theorem tb6_in {i : Nat} {w : Cond} (h : tables_1_6[i]? = some w) : w ∈ lw_tbl := List.mem_append_right _ (show w ∈ tables_1_1 ++ (tables_1_2 ++ (tables_1_3 ++ (tables_1_4 ++ (tables_1_5 ++ (tables_1_6))))) from (List.mem_append_right _ (List.mem_append_right _ (List.mem_append_right _ (List.mem_append_right _ (List.mem_append_right _ (List.mem_of_getElem? h)))))))
theorem pv_in {i : Nat} {w : Cond} (h : (k2_sels lw_privs)[i]? = some w) : w ∈ lw_tbl := List.mem_append_left _ (List.mem_of_getElem? h)
def M_SD_init : Mth := (⟨"SuperDriver", "<init>", "()V"⟩, prog_1_method_1_code, 2, none, some [])
def M_SD_allInputsAreThere : Mth := (⟨"SuperDriver", "allInputsAreThere", "()Z"⟩, prog_1_method_16_code, 3, some .boolean, some [])
def M_SD_body : Mth := (⟨"SuperDriver", "body", "(II)V"⟩, prog_1_method_6_code, 3, none, some [])
def M_SD_drive : Mth := (⟨"SuperDriver", "drive", "()I"⟩, prog_1_method_9_code, 2, some .int, some [])
def M_SD_forget : Mth := (⟨"SuperDriver", "forget", "()V"⟩, prog_1_method_4_code, 2, none, some [])
def M_SD_function : Mth := (⟨"SuperDriver", "function", "(IIZ)V"⟩, prog_1_method_5_code, 4, none, some [])
def M_SD_goal : Mth := (⟨"SuperDriver", "goal", "()V"⟩, prog_1_method_7_code, 1, none, some [])
def M_SD_input : Mth := (⟨"SuperDriver", "input", "(I)Z"⟩, prog_1_method_8_code, 2, some .boolean, some [])
def M_SD_isCall : Mth := (⟨"SuperDriver", "isCall", "(I)Z"⟩, prog_1_method_21_code, 1, some .boolean, some [])
def M_SD_isConstructor : Mth := (⟨"SuperDriver", "isConstructor", "(I)Z"⟩, prog_1_method_20_code, 1, some .boolean, some [])
def M_SD_isVariable : Mth := (⟨"SuperDriver", "isVariable", "(I)Z"⟩, prog_1_method_19_code, 1, some .boolean, some [])
def M_SD_letterAt : Mth := (⟨"SuperDriver", "letterAt", "(JI)I"⟩, prog_1_method_17_code, 3, some .int, some [])
def M_SD_node : Mth := (⟨"SuperDriver", "node", "(II)I"⟩, prog_1_method_10_code, 4, some .int, some [])
def M_SD_partsOfConstructor : Mth := (⟨"SuperDriver", "partsOfConstructor", "(I)I"⟩, prog_1_method_22_code, 1, some .int, some [])
def M_SD_residual : Mth := (⟨"SuperDriver", "residual", "(II)I"⟩, prog_1_method_12_code, 4, some .int, some [])
def M_SD_result : Mth := (⟨"SuperDriver", "result", "(I)I"⟩, prog_1_method_14_code, 2, some .int, some [])
def M_SD_run : Mth := (⟨"SuperDriver", "run", "(ZI)I"⟩, prog_1_method_13_code, 4, some .int, some [])
def M_SD_signOf : Mth := (⟨"SuperDriver", "signOf", "(I)I"⟩, prog_1_method_18_code, 1, some .int, some [])
def M_SD_steps : Mth := (⟨"SuperDriver", "steps", "()I"⟩, prog_1_method_15_code, 1, some .int, some [])
def M_SD_term : Mth := (⟨"SuperDriver", "term", "(II)I"⟩, prog_1_method_11_code, 4, some .int, some [])
def M_SD_type : Mth := (⟨"SuperDriver", "type", "(J)Z"⟩, prog_1_method_2_code, 6, some .boolean, some [])
def M_SD_wipe : Mth := (⟨"SuperDriver", "wipe", "()V"⟩, prog_1_method_3_code, 1, none, some [])
def M_Driver_init : Mth := (⟨"SuperDriver$Driver", "<init>", "(LSuperDriver$Signs;LSuperDriver$Program;LSuperDriver$Tree;LSuperDriver$Substitution;)V"⟩, prog_2_method_1_code, 5, none, some [])
def M_Driver_addClause : Mth := (⟨"SuperDriver$Driver", "addClause", "(LSuperDriver$Node;III)V"⟩, prog_2_method_10_code, 7, none, some [])
def M_Driver_begin : Mth := (⟨"SuperDriver$Driver", "begin", "(LSuperDriver$Row;)V"⟩, prog_2_method_2_code, 2, none, some [])
def M_Driver_embeddedRival : Mth := (⟨"SuperDriver$Driver", "embeddedRival", "(LSuperDriver$Node;Z)LSuperDriver$Node;"⟩, prog_2_method_6_code, 4, some (.object "SuperDriver$Node"), some [])
def M_Driver_nextRival : Mth := (⟨"SuperDriver$Driver", "nextRival", "(LSuperDriver$Node;Z)LSuperDriver$Node;"⟩, prog_2_method_7_code, 3, some (.object "SuperDriver$Node"), some [])
def M_Driver_renamedRival : Mth := (⟨"SuperDriver$Driver", "renamedRival", "(LSuperDriver$Node;Z)LSuperDriver$Node;"⟩, prog_2_method_5_code, 3, some (.object "SuperDriver$Node"), some [])
def M_Driver_settle : Mth := (⟨"SuperDriver$Driver", "settle", "(I)V"⟩, prog_2_method_3_code, 9, none, some [])
def M_Driver_settleWithoutCall : Mth := (⟨"SuperDriver$Driver", "settleWithoutCall", "(LSuperDriver$Node;)V"⟩, prog_2_method_4_code, 7, none, some [])
def M_Driver_split : Mth := (⟨"SuperDriver$Driver", "split", "(LSuperDriver$Node;I)V"⟩, prog_2_method_9_code, 5, none, some [])
def M_Driver_step : Mth := (⟨"SuperDriver$Driver", "step", "(LSuperDriver$Node;I)V"⟩, prog_2_method_8_code, 3, none, some [])
def M_Generaliser_init : Mth := (⟨"SuperDriver$Generaliser", "<init>", "(LSuperDriver$Signs;LSuperDriver$Tree;)V"⟩, prog_3_method_1_code, 3, none, some [])
def M_Generaliser_generalise : Mth := (⟨"SuperDriver$Generaliser", "generalise", "(LSuperDriver$Node;LSuperDriver$Node;)V"⟩, prog_3_method_2_code, 3, none, some [])
def M_Generaliser_let : Mth := (⟨"SuperDriver$Generaliser", "let", "(LSuperDriver$Node;[I)V"⟩, prog_3_method_7_code, 4, none, some [])
def M_Generaliser_metBefore : Mth := (⟨"SuperDriver$Generaliser", "metBefore", "(LSuperDriver$Row;IILSuperDriver$Row;II)I"⟩, prog_3_method_5_code, 8, some .int, some [])
def M_Generaliser_newVariable : Mth := (⟨"SuperDriver$Generaliser", "newVariable", "(II)I"⟩, prog_3_method_6_code, 4, some .int, some [])
def M_Generaliser_takeApart : Mth := (⟨"SuperDriver$Generaliser", "takeApart", "(LSuperDriver$Row;)V"⟩, prog_3_method_3_code, 4, none, some [])
def M_Generaliser_takeCommon : Mth := (⟨"SuperDriver$Generaliser", "takeCommon", "(LSuperDriver$Row;LSuperDriver$Row;)V"⟩, prog_3_method_4_code, 9, none, some [])
def M_Node_init : Mth := (⟨"SuperDriver$Node", "<init>", "(I)V"⟩, prog_4_method_1_code, 2, none, some [])
def M_Node_become : Mth := (⟨"SuperDriver$Node", "become", "(II)V"⟩, prog_4_method_3_code, 3, none, some [])
def M_Node_dropBelow : Mth := (⟨"SuperDriver$Node", "dropBelow", "()V"⟩, prog_4_method_6_code, 1, none, some [])
def M_Node_fold : Mth := (⟨"SuperDriver$Node", "fold", "(LSuperDriver$Node;)V"⟩, prog_4_method_4_code, 2, none, some [])
def M_Node_isBelow : Mth := (⟨"SuperDriver$Node", "isBelow", "(LSuperDriver$Node;)Z"⟩, prog_4_method_7_code, 3, some .boolean, some [])
def M_Node_open : Mth := (⟨"SuperDriver$Node", "open", "(LSuperDriver$Node;LSuperDriver$Row;II)V"⟩, prog_4_method_2_code, 5, none, some [])
def M_Node_put : Mth := (⟨"SuperDriver$Node", "put", "(LSuperDriver$Node;)V"⟩, prog_4_method_5_code, 2, none, some [])
def M_Program_init : Mth := (⟨"SuperDriver$Program", "<init>", "(LSuperDriver$Signs;LSuperDriver$Substitution;)V"⟩, prog_5_method_1_code, 3, none, some [])
def M_Program_constructorAskedFor : Mth := (⟨"SuperDriver$Program", "constructorAskedFor", "(LSuperDriver$Row;I)I"⟩, prog_5_method_6_code, 4, some .int, some [])
def M_Program_unfold : Mth := (⟨"SuperDriver$Program", "unfold", "(LSuperDriver$Row;ILSuperDriver$Row;)V"⟩, prog_5_method_5_code, 11, none, some [])
def M_Program_unfolds : Mth := (⟨"SuperDriver$Program", "unfolds", "(LSuperDriver$Row;I)Z"⟩, prog_5_method_4_code, 4, some .boolean, some [])
def M_ResidualProgram_init : Mth := (⟨"SuperDriver$ResidualProgram", "<init>", "(LSuperDriver$Signs;LSuperDriver$Substitution;LSuperDriver$Tree;)V"⟩, prog_6_method_1_code, 4, none, some [])
def M_ResidualProgram_addAllBelow : Mth := (⟨"SuperDriver$ResidualProgram", "addAllBelow", "(LSuperDriver$Node;)V"⟩, prog_6_method_10_code, 2, none, some [])
def M_ResidualProgram_bodyOf : Mth := (⟨"SuperDriver$ResidualProgram", "bodyOf", "(II)LSuperDriver$Row;"⟩, prog_6_method_4_code, 5, some (.object "SuperDriver$Row"), some [])
def M_ResidualProgram_clauseBelow : Mth := (⟨"SuperDriver$ResidualProgram", "clauseBelow", "(LSuperDriver$Node;I)LSuperDriver$Node;"⟩, prog_6_method_6_code, 3, some (.object "SuperDriver$Node"), some [])
def M_ResidualProgram_markFunctions : Mth := (⟨"SuperDriver$ResidualProgram", "markFunctions", "()V"⟩, prog_6_method_7_code, 3, none, some [])
def M_ResidualProgram_start : Mth := (⟨"SuperDriver$ResidualProgram", "start", "()LSuperDriver$Row;"⟩, prog_6_method_2_code, 2, some (.object "SuperDriver$Row"), some [])
def M_ResidualProgram_variableOf : Mth := (⟨"SuperDriver$ResidualProgram", "variableOf", "(III)I"⟩, prog_6_method_5_code, 7, some .int, some [])
def M_ResidualProgram_write : Mth := (⟨"SuperDriver$ResidualProgram", "write", "()Z"⟩, prog_6_method_3_code, 3, some .boolean, some [])
def M_ResidualProgram_writeFold : Mth := (⟨"SuperDriver$ResidualProgram", "writeFold", "(LSuperDriver$Node;)V"⟩, prog_6_method_11_code, 4, none, some [])
def M_ResidualProgram_writeInline : Mth := (⟨"SuperDriver$ResidualProgram", "writeInline", "(LSuperDriver$Node;)V"⟩, prog_6_method_9_code, 2, none, some [])
def M_ResidualProgram_writeLet : Mth := (⟨"SuperDriver$ResidualProgram", "writeLet", "(LSuperDriver$Node;)V"⟩, prog_6_method_12_code, 5, none, some [])
def M_ResidualProgram_writeOwnCall : Mth := (⟨"SuperDriver$ResidualProgram", "writeOwnCall", "(LSuperDriver$Node;)V"⟩, prog_6_method_8_code, 5, none, some [])
def M_Row_init : Mth := (⟨"SuperDriver$Row", "<init>", "(I)V"⟩, prog_7_method_1_code, 2, none, some [])
def M_Row_add : Mth := (⟨"SuperDriver$Row", "add", "(I)V"⟩, prog_7_method_7_code, 2, none, some [])
def M_Row_addRange : Mth := (⟨"SuperDriver$Row", "addRange", "(LSuperDriver$Row;II)V"⟩, prog_7_method_8_code, 7, none, some [])
def M_Row_at : Mth := (⟨"SuperDriver$Row", "at", "(I)I"⟩, prog_7_method_5_code, 2, some .int, some [])
def M_Row_clear : Mth := (⟨"SuperDriver$Row", "clear", "()V"⟩, prog_7_method_6_code, 1, none, some [])
def M_Row_copy : Mth := (⟨"SuperDriver$Row", "copy", "(LSuperDriver$Row;)V"⟩, prog_7_method_9_code, 2, none, some [])
def M_Row_indexOf : Mth := (⟨"SuperDriver$Row", "indexOf", "(I)I"⟩, prog_7_method_10_code, 3, some .int, some [])
def M_Row_isEmpty : Mth := (⟨"SuperDriver$Row", "isEmpty", "()Z"⟩, prog_7_method_3_code, 1, some .boolean, some [])
def M_Row_isRenamingOf : Mth := (⟨"SuperDriver$Row", "isRenamingOf", "(LSuperDriver$Row;)Z"⟩, prog_7_method_12_code, 5, some .boolean, some [])
def M_Row_isTooLong : Mth := (⟨"SuperDriver$Row", "isTooLong", "()Z"⟩, prog_7_method_4_code, 1, some .boolean, some [])
def M_Row_length : Mth := (⟨"SuperDriver$Row", "length", "()I"⟩, prog_7_method_2_code, 1, some .int, some [])
def M_Row_repeats : Mth := (⟨"SuperDriver$Row", "repeats", "(III)Z"⟩, prog_7_method_11_code, 5, some .boolean, some [])
def M_Runner_init : Mth := (⟨"SuperDriver$Runner", "<init>", "(LSuperDriver$Signs;LSuperDriver$Substitution;)V"⟩, prog_8_method_1_code, 3, none, some [])
def M_Runner_begin : Mth := (⟨"SuperDriver$Runner", "begin", "(LSuperDriver$Row;[LSuperDriver$Row;)V"⟩, prog_8_method_3_code, 4, none, some [])
def M_Runner_clear : Mth := (⟨"SuperDriver$Runner", "clear", "()V"⟩, prog_8_method_2_code, 1, none, some [])
def M_Runner_constructorAt : Mth := (⟨"SuperDriver$Runner", "constructorAt", "(I)I"⟩, prog_8_method_6_code, 2, some .int, some [])
def M_Runner_go : Mth := (⟨"SuperDriver$Runner", "go", "(LSuperDriver$Program;I)I"⟩, prog_8_method_4_code, 5, some .int, some [])
def M_Runner_judge : Mth := (⟨"SuperDriver$Runner", "judge", "(LSuperDriver$Program;II)I"⟩, prog_8_method_7_code, 4, some .int, some [])
def M_Runner_stepsMade : Mth := (⟨"SuperDriver$Runner", "stepsMade", "()I"⟩, prog_8_method_5_code, 1, some .int, some [])
def M_Signs_init : Mth := (⟨"SuperDriver$Signs", "<init>", "()V"⟩, prog_9_method_1_code, 2, none, some [])
def M_Signs_behind : Mth := (⟨"SuperDriver$Signs", "behind", "(LSuperDriver$Row;I)I"⟩, prog_9_method_5_code, 5, some .int, some [])
def M_Signs_couples : Mth := (⟨"SuperDriver$Signs", "couples", "(IIII)Z"⟩, prog_9_method_11_code, 8, some .boolean, some [])
def M_Signs_embeddedInParts : Mth := (⟨"SuperDriver$Signs", "embeddedInParts", "(II)J"⟩, prog_9_method_10_code, 7, some .long, some [])
def M_Signs_findEnds : Mth := (⟨"SuperDriver$Signs", "findEnds", "(LSuperDriver$Row;[I)V"⟩, prog_9_method_13_code, 7, none, some [])
def M_Signs_isCased : Mth := (⟨"SuperDriver$Signs", "isCased", "(I)Z"⟩, prog_9_method_4_code, 2, some .boolean, some [])
def M_Signs_isEmbedded : Mth := (⟨"SuperDriver$Signs", "isEmbedded", "(LSuperDriver$Row;LSuperDriver$Row;)Z"⟩, prog_9_method_9_code, 7, some .boolean, some [])
def M_Signs_isMarked : Mth := (⟨"SuperDriver$Signs", "isMarked", "(II)Z"⟩, prog_9_method_12_code, 3, some .boolean, some [])
def M_Signs_isTerm : Mth := (⟨"SuperDriver$Signs", "isTerm", "(LSuperDriver$Row;)Z"⟩, prog_9_method_6_code, 5, some .boolean, some [])
def M_Signs_isValue : Mth := (⟨"SuperDriver$Signs", "isValue", "(LSuperDriver$Row;)Z"⟩, prog_9_method_7_code, 3, some .boolean, some [])
def M_Signs_nextCall : Mth := (⟨"SuperDriver$Signs", "nextCall", "(LSuperDriver$Row;)I"⟩, prog_9_method_8_code, 4, some .int, some [])
def M_Signs_partsOf : Mth := (⟨"SuperDriver$Signs", "partsOf", "(I)I"⟩, prog_9_method_3_code, 2, some .int, some [])
def M_Signs_shape : Mth := (⟨"SuperDriver$Signs", "shape", "(IIZ)V"⟩, prog_9_method_2_code, 4, none, some [])
def M_SourceProgram_init : Mth := (⟨"SuperDriver$SourceProgram", "<init>", "(LSuperDriver$Signs;LSuperDriver$Substitution;)V"⟩, prog_10_method_1_code, 4, none, some [])
def M_SourceProgram_bodyOf : Mth := (⟨"SuperDriver$SourceProgram", "bodyOf", "(II)LSuperDriver$Row;"⟩, prog_10_method_7_code, 4, some (.object "SuperDriver$Row"), some [])
def M_SourceProgram_clear : Mth := (⟨"SuperDriver$SourceProgram", "clear", "()V"⟩, prog_10_method_2_code, 2, none, some [])
def M_SourceProgram_declare : Mth := (⟨"SuperDriver$SourceProgram", "declare", "(IIZ)V"⟩, prog_10_method_4_code, 4, none, some [])
def M_SourceProgram_define : Mth := (⟨"SuperDriver$SourceProgram", "define", "(IILSuperDriver$Row;)V"⟩, prog_10_method_6_code, 5, none, some [])
def M_SourceProgram_isDeclared : Mth := (⟨"SuperDriver$SourceProgram", "isDeclared", "(I)Z"⟩, prog_10_method_3_code, 2, some .boolean, some [])
def M_SourceProgram_mayHave : Mth := (⟨"SuperDriver$SourceProgram", "mayHave", "(IILSuperDriver$Row;)Z"⟩, prog_10_method_5_code, 6, some .boolean, some [])
def M_SourceProgram_placeOf : Mth := (⟨"SuperDriver$SourceProgram", "placeOf", "(II)LSuperDriver$Row;"⟩, prog_10_method_9_code, 4, some (.object "SuperDriver$Row"), some [])
def M_SourceProgram_variableOf : Mth := (⟨"SuperDriver$SourceProgram", "variableOf", "(III)I"⟩, prog_10_method_8_code, 4, some .int, some [])
def M_Substitution_init : Mth := (⟨"SuperDriver$Substitution", "<init>", "()V"⟩, prog_11_method_1_code, 1, none, some [])
def M_Substitution_apply : Mth := (⟨"SuperDriver$Substitution", "apply", "(LSuperDriver$Row;LSuperDriver$Row;)V"⟩, prog_11_method_4_code, 5, none, some [])
def M_Substitution_begin : Mth := (⟨"SuperDriver$Substitution", "begin", "()V"⟩, prog_11_method_2_code, 1, none, some [])
def M_Substitution_bind : Mth := (⟨"SuperDriver$Substitution", "bind", "(ILSuperDriver$Row;II)V"⟩, prog_11_method_3_code, 5, none, some [])
def M_Tree_init : Mth := (⟨"SuperDriver$Tree", "<init>", "()V"⟩, prog_12_method_1_code, 2, none, some [])
def M_Tree_add : Mth := (⟨"SuperDriver$Tree", "add", "(LSuperDriver$Node;LSuperDriver$Row;II)LSuperDriver$Node;"⟩, prog_12_method_7_code, 6, some (.object "SuperDriver$Node"), some [])
def M_Tree_clear : Mth := (⟨"SuperDriver$Tree", "clear", "()V"⟩, prog_12_method_2_code, 1, none, some [])
def M_Tree_count : Mth := (⟨"SuperDriver$Tree", "count", "()I"⟩, prog_12_method_3_code, 1, some .int, some [])
def M_Tree_get : Mth := (⟨"SuperDriver$Tree", "get", "(I)LSuperDriver$Node;"⟩, prog_12_method_5_code, 2, some (.object "SuperDriver$Node"), some [])
def M_Tree_isTooGreat : Mth := (⟨"SuperDriver$Tree", "isTooGreat", "()Z"⟩, prog_12_method_4_code, 1, some .boolean, some [])
def M_Tree_newVariable : Mth := (⟨"SuperDriver$Tree", "newVariable", "()I"⟩, prog_12_method_6_code, 1, some .int, some [])
def M_Tree_removeBelow : Mth := (⟨"SuperDriver$Tree", "removeBelow", "(LSuperDriver$Node;)V"⟩, prog_12_method_8_code, 4, none, some [])
def M_Law_body : Mth := (⟨"SuperDriverLaw", "body", "(LSuperDriver;II)I"⟩, method_4_code, 4, some .int, some [(0, 6, 9, 15), (0, 6, 12, 13)])
def M_Law_drive : Mth := (⟨"SuperDriverLaw", "drive", "(LSuperDriver;[J)I"⟩, method_6_code, 3, some .int, some [(0, 8, 11, 15), (0, 8, 14, 28)])
def M_Law_function : Mth := (⟨"SuperDriverLaw", "function", "(LSuperDriver;IIZ)I"⟩, method_3_code, 5, some .int, some [(0, 7, 10, 13), (0, 7, 14, 15)])
def M_Law_goal : Mth := (⟨"SuperDriverLaw", "goal", "(LSuperDriver;)I"⟩, method_5_code, 2, some .int, some [(0, 4, 7, 13)])
def M_Law_run : Mth := (⟨"SuperDriverLaw", "run", "(LSuperDriver;ZI[J)I"⟩, method_7_code, 5, some .int, some [(0, 10, 13, 13), (0, 10, 17, 15)])
def M_Mo_init : Mth := (⟨"SuperDriverModel", "<init>", "()V"⟩, prog_14_method_1_code, 1, none, some [])
def M_Mo_add : Mth := (⟨"SuperDriverModel", "add", "(I[III)V"⟩, prog_14_method_24_code, 6, none, some [])
def M_Mo_alike : Mth := (⟨"SuperDriverModel", "alike", "([II[III)Z"⟩, prog_14_method_8_code, 8, some .boolean, some [])
def M_Mo_areParts : Mth := (⟨"SuperDriverModel", "areParts", "(IIIII)Z"⟩, prog_14_method_31_code, 10, some .boolean, some [])
def M_Mo_becomes : Mth := (⟨"SuperDriverModel", "becomes", "(II)V"⟩, prog_14_method_25_code, 3, none, some [])
def M_Mo_begin : Mth := (⟨"SuperDriverModel", "begin", "(Z)V"⟩, prog_14_method_53_code, 6, none, some [])
def M_Mo_bind : Mth := (⟨"SuperDriverModel", "bind", "(II)I"⟩, prog_14_method_22_code, 10, some .int, some [])
def M_Mo_body : Mth := (⟨"SuperDriverModel", "body", "(II)V"⟩, prog_14_method_15_code, 6, none, some [])
def M_Mo_bodyOf : Mth := (⟨"SuperDriverModel", "bodyOf", "(I)I"⟩, prog_14_method_20_code, 5, some .int, some [])
def M_Mo_build : Mth := (⟨"SuperDriverModel", "build", "(I)V"⟩, prog_14_method_33_code, 5, none, some [])
def M_Mo_builtOf : Mth := (⟨"SuperDriverModel", "builtOf", "(I)I"⟩, prog_14_method_5_code, 1, some .int, some [])
def M_Mo_differ : Mth := (⟨"SuperDriverModel", "differ", "(III)V"⟩, prog_14_method_35_code, 9, none, some [])
def M_Mo_drive : Mth := (⟨"SuperDriverModel", "drive", "()I"⟩, prog_14_method_41_code, 2, some .int, some [])
def M_Mo_end : Mth := (⟨"SuperDriverModel", "end", "([II)I"⟩, prog_14_method_7_code, 5, some .int, some [])
def M_Mo_findFunctions : Mth := (⟨"SuperDriverModel", "findFunctions", "()V"⟩, prog_14_method_42_code, 4, none, some [])
def M_Mo_forget : Mth := (⟨"SuperDriverModel", "forget", "()V"⟩, prog_14_method_13_code, 2, none, some [])
def M_Mo_function : Mth := (⟨"SuperDriverModel", "function", "(IIZ)V"⟩, prog_14_method_14_code, 5, none, some [])
def M_Mo_generalise : Mth := (⟨"SuperDriverModel", "generalise", "(II)V"⟩, prog_14_method_36_code, 8, none, some [])
def M_Mo_goBelow : Mth := (⟨"SuperDriverModel", "goBelow", "(I)V"⟩, prog_14_method_38_code, 4, none, some [])
def M_Mo_goal : Mth := (⟨"SuperDriverModel", "goal", "()V"⟩, prog_14_method_16_code, 1, none, some [])
def M_Mo_hasInputs : Mth := (⟨"SuperDriverModel", "hasInputs", "()Z"⟩, prog_14_method_52_code, 3, some .boolean, some [])
def M_Mo_hold : Mth := (⟨"SuperDriverModel", "hold", "(II)V"⟩, prog_14_method_43_code, 4, none, some [])
def M_Mo_input : Mth := (⟨"SuperDriverModel", "input", "(I)Z"⟩, prog_14_method_17_code, 2, some .boolean, some [])
def M_Mo_isCased : Mth := (⟨"SuperDriverModel", "isCased", "(I)Z"⟩, prog_14_method_18_code, 2, some .boolean, some [])
def M_Mo_isEmbedded : Mth := (⟨"SuperDriverModel", "isEmbedded", "(II)Z"⟩, prog_14_method_30_code, 10, some .boolean, some [])
def M_Mo_isNode : Mth := (⟨"SuperDriverModel", "isNode", "(I)Z"⟩, prog_14_method_48_code, 2, some .boolean, some [])
def M_Mo_isRenaming : Mth := (⟨"SuperDriverModel", "isRenaming", "(II)Z"⟩, prog_14_method_29_code, 3, some .boolean, some [])
def M_Mo_isTerm : Mth := (⟨"SuperDriverModel", "isTerm", "(IZ)Z"⟩, prog_14_method_9_code, 8, some .boolean, some [])
def M_Mo_let : Mth := (⟨"SuperDriverModel", "let", "(II[I)V"⟩, prog_14_method_37_code, 5, none, some [])
def M_Mo_load : Mth := (⟨"SuperDriverModel", "load", "(I)V"⟩, prog_14_method_27_code, 3, none, some [])
def M_Mo_lowestOpen : Mth := (⟨"SuperDriverModel", "lowestOpen", "()I"⟩, prog_14_method_40_code, 2, some .int, some [])
def M_Mo_nextCall : Mth := (⟨"SuperDriverModel", "nextCall", "()I"⟩, prog_14_method_19_code, 2, some .int, some [])
def M_Mo_node : Mth := (⟨"SuperDriverModel", "node", "(II)I"⟩, prog_14_method_49_code, 3, some .int, some [])
def M_Mo_partsOf : Mth := (⟨"SuperDriverModel", "partsOf", "(I)I"⟩, prog_14_method_6_code, 2, some .int, some [])
def M_Mo_put : Mth := (⟨"SuperDriverModel", "put", "(I)V"⟩, prog_14_method_44_code, 2, none, some [])
def M_Mo_putCall : Mth := (⟨"SuperDriverModel", "putCall", "(I)V"⟩, prog_14_method_46_code, 3, none, some [])
def M_Mo_putResidual : Mth := (⟨"SuperDriverModel", "putResidual", "(I)V"⟩, prog_14_method_45_code, 3, none, some [])
def M_Mo_renames : Mth := (⟨"SuperDriverModel", "renames", "([III[III)Z"⟩, prog_14_method_28_code, 11, some .boolean, some [])
def M_Mo_renew : Mth := (⟨"SuperDriverModel", "renew", "(I)I"⟩, prog_14_method_26_code, 3, some .int, some [])
def M_Mo_residual : Mth := (⟨"SuperDriverModel", "residual", "(II)I"⟩, prog_14_method_51_code, 3, some .int, some [])
def M_Mo_result : Mth := (⟨"SuperDriverModel", "result", "(I)I"⟩, prog_14_method_55_code, 2, some .int, some [])
def M_Mo_rival : Mth := (⟨"SuperDriverModel", "rival", "(IZZ)I"⟩, prog_14_method_32_code, 5, some .int, some [])
def M_Mo_run : Mth := (⟨"SuperDriverModel", "run", "(ZI)I"⟩, prog_14_method_54_code, 5, some .int, some [])
def M_Mo_signOf : Mth := (⟨"SuperDriverModel", "signOf", "(I)I"⟩, prog_14_method_4_code, 1, some .int, some [])
def M_Mo_split : Mth := (⟨"SuperDriverModel", "split", "(II)V"⟩, prog_14_method_34_code, 9, none, some [])
def M_Mo_stand : Mth := (⟨"SuperDriverModel", "stand", "(II)I"⟩, prog_14_method_21_code, 3, some .int, some [])
def M_Mo_steps : Mth := (⟨"SuperDriverModel", "steps", "()I"⟩, prog_14_method_56_code, 1, some .int, some [])
def M_Mo_takeText : Mth := (⟨"SuperDriverModel", "takeText", "([II)I"⟩, prog_14_method_10_code, 4, some .int, some [])
def M_Mo_term : Mth := (⟨"SuperDriverModel", "term", "(II)I"⟩, prog_14_method_50_code, 3, some .int, some [])
def M_Mo_throwing : Mth := (⟨"SuperDriverModel", "throwing", "(ZZ)Z"⟩, prog_14_method_3_code, 3, some .boolean, some [])
def M_Mo_thrown : Mth := (⟨"SuperDriverModel", "thrown", "()I"⟩, prog_14_method_2_code, 1, some .int, some [])
def M_Mo_turn : Mth := (⟨"SuperDriverModel", "turn", "(I)V"⟩, prog_14_method_39_code, 7, none, some [])
def M_Mo_type : Mth := (⟨"SuperDriverModel", "type", "(J)Z"⟩, prog_14_method_11_code, 6, some .boolean, some [])
def M_Mo_unfold : Mth := (⟨"SuperDriverModel", "unfold", "(I)V"⟩, prog_14_method_23_code, 11, none, some [])
def M_Mo_wipe : Mth := (⟨"SuperDriverModel", "wipe", "()V"⟩, prog_14_method_12_code, 1, none, some [])
def M_Mo_write : Mth := (⟨"SuperDriverModel", "write", "(I)V"⟩, prog_14_method_47_code, 4, none, some [])
end
section
/-! shapes, memory, contexts -/
abbrev Sh : Type := Nat × Nat
abbrev Mem : Type := (Nat → Nat → Int32) × (Nat → Nat → Option Nat) × (Nat → Nat → Int64)
abbrev Ctx : Type := Launch × State × Array Value × va_G × (Nat → ClassId)
abbrev Ev : Type := Room × Nat × Nat × (List Frame → Array Value → State → State → Prop)
def cL (G : Ctx) : Launch := G.1
def cS (G : Ctx) : State := G.2.1
def cA0 (G : Ctx) : Array Value := G.2.2.1
def cD (G : Ctx) : va_G := G.2.2.2.1
def cCA (G : Ctx) : Nat → ClassId := G.2.2.2.2
def cB (G : Ctx) : Nat := (cS G).heap.size
def my (M : Mth) : MethodName := M.1
def mcd (M : Mth) : ByteArray := M.2.1
def mL (M : Mth) : Nat := M.2.2.1
def mrt (M : Mth) : Option FieldType := M.2.2.2.1
def mhh (M : Mth) : Option (List (Nat × Nat × Nat × Nat)) := M.2.2.2.2
def rf (G : Ctx) (k : Nat) : Value := .ref (cB G + k)
def ov (G : Ctx) : Option Nat → Value
  | none => .null
  | some k => rf G k
theorem ov_rf (G : Ctx) (o : Option Nat) : ov G o = va_rf (o.map (cB G + ·)) := by cases o <;> rfl
theorem ov_or (G : Ctx) (o : Option Nat) : ov G o = .null ∨ ∃ a, ov G o = .ref a := by
  cases o with
  | none => exact Or.inl rfl
  | some k => exact Or.inr ⟨_, rfl⟩
def wI (σ : Mem) (a j : Nat) (v : Int32) : Mem := (fun k i => if k = a ∧ i = j then v else σ.1 k i, σ.2)
def wR (σ : Mem) (a j : Nat) (v : Option Nat) : Mem := (σ.1, fun k i => if k = a ∧ i = j then v else σ.2.1 k i, σ.2.2)
def wL (σ : Mem) (a j : Nat) (v : Int64) : Mem := (σ.1, σ.2.1, fun k i => if k = a ∧ i = j then v else σ.2.2 k i)
/-- a field's value by its type -/
def fval (G : Ctx) (mi : Nat → Int32) (mr : Nat → Option Nat) (ml : Nat → Int64) (j : Nat) (ty : FieldType) : Value := match ty with
  | .object _ => ov G (mr j)
  | .array _ => ov G (mr j)
  | .long => .long (ml j)
  | _ => .int (mi j)
def cellOK (G : Ctx) (mi : Nat → Int32) (mr : Nat → Option Nat) (ml : Nat → Int64) (k : Nat) (sh : Sh) (H : Heap) : Prop := match sh with
  | (0, ci) => ∃ r : vw_C, vwCl[ci]? = some r ∧ t_OB (cB G + k) ((cD G).1 ci) r.2.2 ((cD G).2 ci) H (fun j => fval G mi mr ml j (tyOf ci j))
  | (1, n) => H[cB G + k]? = some (arrV (cCA G 1) n (fun i => .int (mi i)))
  | (2, n) => H[cB G + k]? = some (arrV (cCA G 2) n (fun i => .int (mi i)))
  | (3, n) => H[cB G + k]? = some (arrV (cCA G 3) n (fun i => .long (ml i)))
  | (t, n) => t < 9 → H[cB G + k]? = some (arrV (cCA G t) n (fun i => ov G (mr i)))
def VH (G : Ctx) (Γ : List Sh) (σ : Mem) (H : Heap) : Prop := H.size = cB G + Γ.length ∧ ∀ (k : Nat) (sh : Sh), Γ[k]? = some sh → cellOK G (σ.1 k) (σ.2.1 k) (σ.2.2 k) k sh H
def Out (G : Ctx) (H : Heap) : Prop := ∀ q : Nat, q < cB G → H[q]? = (cS G).heap[q]?
def fre (G : Ctx) : Nat → Prop := fun q => cB G ≤ q
theorem cellOK.kept {G : Ctx} {mi : Nat → Int32} {mr : Nat → Option Nat} {ml : Nat → Int64} {k : Nat} {sh : Sh} {H H1 : Heap} (h : cellOK G mi mr ml k sh H) (hq : H1[cB G + k]? = H[cB G + k]?) : cellOK G mi mr ml k sh H1 := by
  unfold cellOK at h ⊢
  split at h
  · obtain ⟨r, h1, h2⟩ := h
    exact ⟨r, h1, h2.kept hq⟩
  · rw [hq]; exact h
  · rw [hq]; exact h
  · rw [hq]; exact h
  · rw [hq]; exact h
theorem VH.upd {G : Ctx} {Γ : List Sh} {σ σ' : Mem} {H H1 : Heap} {a : Nat} {sh : Sh} (hV : VH G Γ σ H) (hk : Γ[a]? = some sh) (h1 : ∀ k, k ≠ a → σ'.1 k = σ.1 k) (h2 : ∀ k, k ≠ a → σ'.2.1 k = σ.2.1 k) (h3 : ∀ k, k ≠ a → σ'.2.2 k = σ.2.2 k)
    (hz : H1.size = H.size) (ho : ∀ q : Nat, q ≠ cB G + a → H1[q]? = H[q]?) (hc : cellOK G (σ'.1 a) (σ'.2.1 a) (σ'.2.2 a) a sh H1) : VH G Γ σ' H1 := by
  refine ⟨hz.trans hV.1, fun k s hs => ?_⟩
  by_cases e : k = a
  · subst e
    cases Option.some.inj (hk.symm.trans hs)
    exact hc
  · rw [h1 k e, h2 k e, h3 k e]
    exact (hV.2 k s hs).kept (ho _ (by omega))
/-! locals: by number; values of two words beside them -/
def asc (lv : List (Option Value)) : List (Nat × Value) := (List.range lv.length).filterMap (fun i => (lv[i]?.join).map (fun v => (i, v)))
theorem asc_mem {lv : List (Option Value)} {i : Nat} {v : Value} : (i, v) ∈ asc lv ↔ lv[i]? = some (some v) := by
  unfold asc
  rw [List.mem_filterMap]
  constructor
  · rintro ⟨j, -, hj⟩
    cases h : lv[j]? with
    | none => rw [h] at hj; cases hj
    | some o =>
      cases o with
      | none => rw [h] at hj; cases hj
      | some w =>
        rw [h] at hj
        simp at hj
        obtain ⟨rfl, rfl⟩ := hj
        exact h
  · intro h
    refine ⟨i, List.mem_range.mpr (List.getElem?_eq_some_iff.mp h).1, ?_⟩
    rw [h]
    rfl
def lal (ll : List (Nat × Int64)) : List (Nat × Value) := ll.map (fun q => (q.1, .long q.2))
def lvR (ls : Array Slot) (nL : Nat) (lv : List (Option Value)) (ll : List (Nat × Int64)) : Prop := lv_has ls nL (asc lv ++ lal ll) ∧ ∀ (i : Nat) (v : Value), lv[i]? = some (some v) → v.category = 1
theorem lvR.at {ls : Array Slot} {nL : Nat} {lv : List (Option Value)} {ll : List (Nat × Int64)} (h : lvR ls nL lv ll) {i : Nat} {v : Value} (hi : lv[i]? = some (some v)) : ls[i]? = some (.val v) := h.1.2.2 (i, v) (List.mem_append_left _ (asc_mem.mpr hi))
theorem lvR.atL {ls : Array Slot} {nL : Nat} {lv : List (Option Value)} {ll : List (Nat × Int64)} (h : lvR ls nL lv ll) {i : Nat} {x : Int64} (hi : (i, x) ∈ ll) : ls[i]? = some (.val (.long x)) := h.1.2.2 (i, .long x) (List.mem_append_right _ (List.mem_map.mpr ⟨(i, x), hi, rfl⟩))
theorem lvR.put {ls : Array Slot} {nL : Nat} {lv : List (Option Value)} {ll : List (Nat × Int64)} (hc : ∀ (i : Nat) (v : Value), lv[i]? = some (some v) → v.category = 1) {i : Nat} {v : Value} (hv : v.category = 1) (hll : ll.all (fun q => !(q.1 == i) && !(q.1 + 1 == i)) = true)
    (h : lv_has ls nL ((i, v) :: (asc lv ++ lal ll).filter (fun q => !(q.1 == i) && !(q.1 + 1 == i && q.2.category == 2)))) : lvR ls nL (lv.set i (some v)) ll := by
  have key : ∀ (j : Nat) (w : Value), (lv.set i (some v))[j]? = some (some w) → (j = i ∧ w = v) ∨ (j ≠ i ∧ lv[j]? = some (some w)) := by
    intro j w hj
    rw [List.getElem?_set] at hj
    by_cases e : i = j
    · rw [if_pos e] at hj
      split at hj
      · cases hj; exact Or.inl ⟨e.symm, rfl⟩
      · cases hj
    · rw [if_neg e] at hj
      exact Or.inr ⟨fun z => e z.symm, hj⟩
  refine ⟨⟨h.1, h.2.1, fun q hq => ?_⟩, fun j w hj => ?_⟩
  · obtain ⟨j, w⟩ := q
    rcases List.mem_append.mp hq with hq | hq
    · rcases key j w (asc_mem.mp hq) with ⟨rfl, rfl⟩ | ⟨hne, hj⟩
      · exact h.2.2 _ List.mem_cons_self
      · refine h.2.2 _ (List.mem_cons_of_mem _ (List.mem_filter.mpr ⟨List.mem_append_left _ (asc_mem.mpr hj), ?_⟩))
        have h1 := hc j w hj
        simp [hne, h1]
    · refine h.2.2 _ (List.mem_cons_of_mem _ (List.mem_filter.mpr ⟨List.mem_append_right _ hq, ?_⟩))
      obtain ⟨q0, hq0, e0⟩ := List.mem_map.mp hq
      have h1 := List.all_eq_true.mp hll q0 hq0
      cases e0
      simp at h1 ⊢
      exact ⟨h1.1, Or.inl h1.2⟩
  · rcases key j w hj with ⟨rfl, rfl⟩ | ⟨-, hj⟩
    · exact hv
    · exact hc j w hj
theorem lvR.putL {ls : Array Slot} {nL : Nat} {lv : List (Option Value)} {ll : List (Nat × Int64)} (hc : ∀ (i : Nat) (v : Value), lv[i]? = some (some v) → v.category = 1) {i : Nat} {x : Int64} (hll : ll.all (fun q => (q.1 == i) || (!(q.1 == i + 1) && !(q.1 + 1 == i))) = true)
    (h : lv_has ls nL ((i, .long x) :: (asc lv ++ lal ll).filter (fun q => !(q.1 == i) && (!(q.1 == i + 1) && !(q.1 + 1 == i && q.2.category == 2))))) : lvR ls nL ((lv.set i none).set (i + 1) none) ((i, x) :: ll.filter (fun q => !(q.1 == i))) := by
  have key : ∀ (j : Nat) (w : Value), ((lv.set i none).set (i + 1) none)[j]? = some (some w) → j ≠ i ∧ j ≠ i + 1 ∧ lv[j]? = some (some w) := by
    intro j w hj
    rw [List.getElem?_set] at hj
    by_cases e : i + 1 = j
    · rw [if_pos e] at hj
      split at hj <;> cases hj
    · rw [if_neg e, List.getElem?_set] at hj
      by_cases e2 : i = j
      · rw [if_pos e2] at hj
        split at hj <;> cases hj
      · rw [if_neg e2] at hj
        exact ⟨fun z => e2 z.symm, fun z => e z.symm, hj⟩
  refine ⟨⟨h.1, h.2.1, fun q hq => ?_⟩, fun j w hj => hc j w (key j w hj).2.2⟩
  obtain ⟨j, w⟩ := q
  rcases List.mem_append.mp hq with hq | hq
  · obtain ⟨h1, h2, h3⟩ := key j w (asc_mem.mp hq)
    refine h.2.2 _ (List.mem_cons_of_mem _ (List.mem_filter.mpr ⟨List.mem_append_left _ (asc_mem.mpr h3), ?_⟩))
    have h4 := hc j w h3
    simp [h1, h2, h4]
  · obtain ⟨q0, hq0, e0⟩ := List.mem_map.mp hq
    cases e0
    rcases List.mem_cons.mp hq0 with hq0 | hq0
    · subst hq0
      exact h.2.2 _ List.mem_cons_self
    · obtain ⟨g1, g2⟩ := List.mem_filter.mp hq0
      refine h.2.2 _ (List.mem_cons_of_mem _ (List.mem_filter.mpr ⟨List.mem_append_right _ (List.mem_map.mpr ⟨q0, g1, rfl⟩), ?_⟩))
      have h1 := List.all_eq_true.mp hll q0 g1
      simp at h1 g2 ⊢
      rcases h1 with h1 | h1
      · exact absurd h1 g2
      · exact ⟨g2, h1.1, Or.inl h1.2⟩
/-! contexts and the judgement -/
def eR (E : Ev) : Room := E.1
def eC (E : Ev) : Nat := E.2.1
def eM (E : Ev) : Nat := E.2.2.1
def eZ (E : Ev) : List Frame → Array Value → State → State → Prop := E.2.2.2
def EXc (G : Ctx) : Prop := (Jvm.Cond.and given_1 narrow_1).before (cA0 G) (cS G) = true ∧ (cL G).stackTraces = false
def OKc (G : Ctx) : Prop := (∀ w ∈ lw_tbl, w.before (cA0 G) (cS G) = true) ∧ va_K (cD G) vwCl (tysL (cCA G)) (cS G) ∧ EXc G
def Cx (G : Ctx) (M : Mth) (p : Program) (s : State) (m : MethodId) (meth : Method) (c : Code) : Prop :=
  OKc G ∧ p.tables.exec = Jvm.exec ∧ c.code = mcd M ∧ meth.sig.returnType = mrt M ∧ meth.locks = false ∧ c.maxLocals = mL M ∧ s.vm.findClass (my M).cls = some m.cls ∧ meth.name = (my M).name ∧ (cS G).WarmedH s.vm ∧ cB G ≤ s.heap.size ∧ Out G s.heap ∧ ∀ hh, mhh M = some hh → c.exceptionTable.toList = tableOf hh
section CXs
variable {G : Ctx} {M : Mth} {p : Program} {s : State} {m : MethodId} {meth : Method} {c : Code}
theorem Cx.ok (C : Cx G M p s m meth c) : OKc G := C.1
theorem Cx.exec (C : Cx G M p s m meth c) : p.tables.exec = Jvm.exec := C.2.1
theorem Cx.code (C : Cx G M p s m meth c) : c.code = mcd M := C.2.2.1
theorem Cx.ret (C : Cx G M p s m meth c) : meth.sig.returnType = mrt M := C.2.2.2.1
theorem Cx.locks (C : Cx G M p s m meth c) : meth.locks = false := C.2.2.2.2.1
theorem Cx.maxL (C : Cx G M p s m meth c) : c.maxLocals = mL M := C.2.2.2.2.2.1
theorem Cx.own (C : Cx G M p s m meth c) : s.vm.findClass (my M).cls = some m.cls := C.2.2.2.2.2.2.1
theorem Cx.name (C : Cx G M p s m meth c) : meth.name = (my M).name := C.2.2.2.2.2.2.2.1
theorem Cx.warm (C : Cx G M p s m meth c) : (cS G).WarmedH s.vm := C.2.2.2.2.2.2.2.2.1
theorem Cx.big (C : Cx G M p s m meth c) : cB G ≤ s.heap.size := C.2.2.2.2.2.2.2.2.2.1
theorem Cx.out (C : Cx G M p s m meth c) : Out G s.heap := C.2.2.2.2.2.2.2.2.2.2.1
theorem Cx.tab (C : Cx G M p s m meth c) : ∀ hh, mhh M = some hh → c.exceptionTable.toList = tableOf hh := C.2.2.2.2.2.2.2.2.2.2.2
theorem Cx.wd (C : Cx G M p s m meth c) {args : Array Value} {w : Cond} (hm : w ∈ lw_tbl) (hg : goodWord w = true) : w.before args s = true := word_at C.warm (good_of_word hg) (C.ok.1 w hm)
theorem Cx.K (C : Cx G M p s m meth c) : va_K (cD G) vwCl (tysL (cCA G)) s := va_K.moved C.warm.alike C.ok.2.1
end CXs
def Wq (G : Ctx) (M : Mth) (E : Ev) (bc bs pc : Nat) (lv : List (Option Value)) (ll : List (Nat × Int64)) (st : List Value) (Γ : List Sh) (σ : Mem) : Prop :=
  ∀ (p : Program) (e : Env) (s : State) (m : MethodId) (args : Array Value) (below : List Frame) (meth : Method) (c : Code), Cx G M p s m meth c → ∀ (H : Heap) (locs : List Loc) (cells slots : Nat) (ls : Array Slot), VH G Γ σ H → va_S (fre G) s.heap H locs → cells + bc ≤ eC E → slots + bs ≤ eM E → lvR ls (mL M) lv ll →
    W p (cL G) e (eR E) s m args below meth c H locs cells slots (eZ E below args s) (F0 m pc ls st)
section Lifts
variable {G : Ctx} {M : Mth} {E : Ev} {bc bs pc pc' pc2 : Nat} {lv lv' : List (Option Value)} {ll ll' : List (Nat × Int64)} {st st' st2 : List Value} {Γ : List Sh} {σ : Mem}
theorem Wq.lift (h : ∀ {p : Program} {e : Env} {R : Room} {s : State} {m : MethodId} {args : Array Value} {below : List Frame} {meth : Method} {c : Code} {H : Heap} {locs : List Loc} {cells slots : Nat} {Q : State → Prop} {ls : Array Slot}, p.tables.exec = Jvm.exec → c.code = mcd M → lvR ls (mL M) lv ll → W p (cL G) e R s m args below meth c H locs cells slots Q (F0 m pc' ls st') → W p (cL G) e R s m args below meth c H locs cells slots Q (F0 m pc ls st))
    (k : Wq G M E bc bs pc' lv ll st' Γ σ) : Wq G M E bc bs pc lv ll st Γ σ := fun p e s m args below meth c C H locs cells slots ls hV hS h1 h2 hl => h C.exec C.code hl (k p e s m args below meth c C H locs cells slots ls hV hS h1 h2 hl)
theorem Wq.lift2 {A B : Prop} (h : ∀ {p : Program} {e : Env} {R : Room} {s : State} {m : MethodId} {args : Array Value} {below : List Frame} {meth : Method} {c : Code} {H : Heap} {locs : List Loc} {cells slots : Nat} {Q : State → Prop} {ls : Array Slot}, p.tables.exec = Jvm.exec → c.code = mcd M → lvR ls (mL M) lv ll → (A → W p (cL G) e R s m args below meth c H locs cells slots Q (F0 m pc' ls st')) → (B → W p (cL G) e R s m args below meth c H locs cells slots Q (F0 m pc2 ls st2)) → W p (cL G) e R s m args below meth c H locs cells slots Q (F0 m pc ls st))
    (k1 : A → Wq G M E bc bs pc' lv ll st' Γ σ) (k2 : B → Wq G M E bc bs pc2 lv ll st2 Γ σ) : Wq G M E bc bs pc lv ll st Γ σ := fun p e s m args below meth c C H locs cells slots ls hV hS h1 h2 hl => h C.exec C.code hl (fun a => k1 a p e s m args below meth c C H locs cells slots ls hV hS h1 h2 hl) (fun b => k2 b p e s m args below meth c C H locs cells slots ls hV hS h1 h2 hl)
theorem Wq.liftL (h : ∀ {p : Program} {e : Env} {R : Room} {s : State} {m : MethodId} {args : Array Value} {below : List Frame} {meth : Method} {c : Code} {H : Heap} {locs : List Loc} {cells slots : Nat} {Q : State → Prop} {ls : Array Slot}, p.tables.exec = Jvm.exec → c.code = mcd M → lvR ls (mL M) lv ll → (∀ ls' : Array Slot, lvR ls' (mL M) lv' ll' → W p (cL G) e R s m args below meth c H locs cells slots Q (F0 m pc' ls' st')) → W p (cL G) e R s m args below meth c H locs cells slots Q (F0 m pc ls st))
    (k : Wq G M E bc bs pc' lv' ll' st' Γ σ) : Wq G M E bc bs pc lv ll st Γ σ := fun p e s m args below meth c C H locs cells slots ls hV hS h1 h2 hl => h C.exec C.code hl (fun ls' hl' => k p e s m args below meth c C H locs cells slots ls' hV hS h1 h2 hl')
/-- fewer known locals -/
theorem Wq.sub (hs : ∀ (i : Nat) (v : Value), lv'[i]? = some (some v) → lv[i]? = some (some v)) (hsl : ∀ q ∈ ll', q ∈ ll) (k : Wq G M E bc bs pc lv' ll' st Γ σ) : Wq G M E bc bs pc lv ll st Γ σ := fun p e s m args below meth c C H locs cells slots ls hV hS h1 h2 hl =>
  k p e s m args below meth c C H locs cells slots ls hV hS h1 h2 ⟨⟨hl.1.1, hl.1.2.1, fun q hq => by
    rcases List.mem_append.mp hq with h | h
    · exact hl.1.2.2 q (List.mem_append_left _ (asc_mem.mpr (hs _ _ (asc_mem.mp h))))
    · obtain ⟨q0, h0, e0⟩ := List.mem_map.mp h
      exact hl.1.2.2 q (List.mem_append_right _ (List.mem_map.mpr ⟨q0, hsl q0 h0, e0⟩))⟩, fun i v h => hl.2 i v (hs i v h)⟩
end Lifts
theorem x_iinc0 {p : Program} {l : Launch} {e : Env} {R : Room} {s : State} {m : MethodId} {args : Array Value} {below : List Frame} {meth : Method} {c : Code} {H : Heap} {locs : List Loc} {cells slots : Nat} {Q : State → Prop} {cc : ByteArray} {pc nL i : Nat} {ls : Array Slot} {st : List Value} {lv : List (Option Value)} {ll : List (Nat × Int64)} {n : Int} {x v : Int32} (hx : p.tables.exec = Jvm.exec) (hb : c.code = cc) (hd : decode cc pc = .ok (.iinc i n, 3)) (hl : lvR ls nL lv ll) (hv : lv[i]? = some (some (.int x))) (hn : x + Int32.ofInt n = v) (hi : i < nL)
    (kk : ∀ ls' : Array Slot, lv_has ls' nL ((i, Value.int v) :: (asc lv ++ lal ll).filter (fun q => !(q.1 == i) && !(q.1 + 1 == i && q.2.category == 2))) → W p l e R s m args below meth c H locs cells slots Q (F0 m (pc + 3) ls' st)) : W p l e R s m args below meth c H locs cells slots Q (F0 m pc ls st) := by
  obtain ⟨k, hk⟩ := List.getElem?_of_mem (List.mem_append_left (lal ll) (asc_mem.mpr hv))
  exact lv_iinc hx hb hd hl.1 hk hn hi rfl kk
end
section
theorem x_iconst {G : Ctx} {M : Mth} {E : Ev} {bc bs pc : Nat} {lv : List (Option Value)} {ll : List (Nat × Int64)} {st : List Value} {Γ : List Sh} {σ : Mem} {n : Int} {v : Int32} (hd : decode (mcd M) pc = .ok (.iconst n, 1)) (hv : Int32.ofInt n = v) (k : Wq G M E bc bs (pc + 1) lv ll (.int v :: st) Γ σ) : Wq G M E bc bs pc lv ll st Γ σ := Wq.lift (fun hx hb hl kk => lv_iconst hx hb hd hv kk) k
theorem x_bipush {G : Ctx} {M : Mth} {E : Ev} {bc bs pc : Nat} {lv : List (Option Value)} {ll : List (Nat × Int64)} {st : List Value} {Γ : List Sh} {σ : Mem} {n : Int} {v : Int32} (hd : decode (mcd M) pc = .ok (.bipush n, 2)) (hv : (Int8.ofInt n).toInt32 = v) (k : Wq G M E bc bs (pc + 2) lv ll (.int v :: st) Γ σ) : Wq G M E bc bs pc lv ll st Γ σ := Wq.lift (fun hx hb hl kk => lv_bipush hx hb hd hv kk) k
theorem x_sipush {G : Ctx} {M : Mth} {E : Ev} {bc bs pc : Nat} {lv : List (Option Value)} {ll : List (Nat × Int64)} {st : List Value} {Γ : List Sh} {σ : Mem} {n : Int} {v : Int32} (hd : decode (mcd M) pc = .ok (.sipush n, 3)) (hv : (Int16.ofInt n).toInt32 = v) (k : Wq G M E bc bs (pc + 3) lv ll (.int v :: st) Γ σ) : Wq G M E bc bs pc lv ll st Γ σ := Wq.lift (fun hx hb hl kk => lv_sipush hx hb hd hv kk) k
theorem x_lconst {G : Ctx} {M : Mth} {E : Ev} {bc bs pc : Nat} {lv : List (Option Value)} {ll : List (Nat × Int64)} {st : List Value} {Γ : List Sh} {σ : Mem} {n : Fin 2} {v : Int64} (hd : decode (mcd M) pc = .ok (.lconst n, 1)) (hv : Int64.ofNat (n : Nat) = v) (k : Wq G M E bc bs (pc + 1) lv ll (.long v :: st) Γ σ) : Wq G M E bc bs pc lv ll st Γ σ := Wq.lift (fun hx hb hl kk => lv_lconst hx hb hd hv kk) k
theorem x_null {G : Ctx} {M : Mth} {E : Ev} {bc bs pc : Nat} {lv : List (Option Value)} {ll : List (Nat × Int64)} {st : List Value} {Γ : List Sh} {σ : Mem} (hd : decode (mcd M) pc = .ok (.aconst_null, 1)) (k : Wq G M E bc bs (pc + 1) lv ll (.null :: st) Γ σ) : Wq G M E bc bs pc lv ll st Γ σ := Wq.lift (fun hx hb hl kk => lv_null hx hb hd kk) k
theorem x_iload_n {G : Ctx} {M : Mth} {E : Ev} {bc bs pc : Nat} {lv : List (Option Value)} {ll : List (Nat × Int64)} {st : List Value} {Γ : List Sh} {σ : Mem} {k4 : Fin 4} {i : Nat} {x : Int32} (hd : decode (mcd M) pc = .ok (.iload_n k4, 1)) (hi : (k4 : Nat) = i) (hv : lv[i]? = some (some (.int x))) (k : Wq G M E bc bs (pc + 1) lv ll (.int x :: st) Γ σ) : Wq G M E bc bs pc lv ll st Γ σ := Wq.lift (fun hx hb hl kk => lv_iload_n hx hb hd hi (hl.at hv) kk) k
theorem x_lload_n {G : Ctx} {M : Mth} {E : Ev} {bc bs pc : Nat} {lv : List (Option Value)} {ll : List (Nat × Int64)} {st : List Value} {Γ : List Sh} {σ : Mem} {k4 : Fin 4} {i : Nat} {x : Int64} (hd : decode (mcd M) pc = .ok (.lload_n k4, 1)) (hi : (k4 : Nat) = i) (hv : (i, x) ∈ ll) (k : Wq G M E bc bs (pc + 1) lv ll (.long x :: st) Γ σ) : Wq G M E bc bs pc lv ll st Γ σ := Wq.lift (fun hx hb hl kk => lv_lload_n hx hb hd hi (hl.atL hv) kk) k
theorem x_aload_n {G : Ctx} {M : Mth} {E : Ev} {bc bs pc : Nat} {lv : List (Option Value)} {ll : List (Nat × Int64)} {st : List Value} {Γ : List Sh} {σ : Mem} {k4 : Fin 4} {i : Nat} {x : Nat} (hd : decode (mcd M) pc = .ok (.aload_n k4, 1)) (hi : (k4 : Nat) = i) (hv : lv[i]? = some (some (rf G x))) (k : Wq G M E bc bs (pc + 1) lv ll (rf G x :: st) Γ σ) : Wq G M E bc bs pc lv ll st Γ σ := Wq.lift (fun hx hb hl kk => lv_aload_n hx hb hd hi (hl.at hv) kk) k
theorem x_aloadE_n {G : Ctx} {M : Mth} {E : Ev} {bc bs pc : Nat} {lv : List (Option Value)} {ll : List (Nat × Int64)} {st : List Value} {Γ : List Sh} {σ : Mem} {k4 : Fin 4} {i : Nat} {x : Nat} (hd : decode (mcd M) pc = .ok (.aload_n k4, 1)) (hi : (k4 : Nat) = i) (hv : lv[i]? = some (some (.ref x))) (k : Wq G M E bc bs (pc + 1) lv ll (.ref x :: st) Γ σ) : Wq G M E bc bs pc lv ll st Γ σ := Wq.lift (fun hx hb hl kk => lv_aload_n hx hb hd hi (hl.at hv) kk) k
theorem x_aloadN_n {G : Ctx} {M : Mth} {E : Ev} {bc bs pc : Nat} {lv : List (Option Value)} {ll : List (Nat × Int64)} {st : List Value} {Γ : List Sh} {σ : Mem} {k4 : Fin 4} {i : Nat} (hd : decode (mcd M) pc = .ok (.aload_n k4, 1)) (hi : (k4 : Nat) = i) (hv : lv[i]? = some (some .null)) (k : Wq G M E bc bs (pc + 1) lv ll (.null :: st) Γ σ) : Wq G M E bc bs pc lv ll st Γ σ := Wq.lift (fun hx hb hl kk => lv_aload_nN hx hb hd hi (hl.at hv) kk) k
theorem x_iload {G : Ctx} {M : Mth} {E : Ev} {bc bs pc : Nat} {lv : List (Option Value)} {ll : List (Nat × Int64)} {st : List Value} {Γ : List Sh} {σ : Mem} {i : Nat} {x : Int32} (hd : decode (mcd M) pc = .ok (.iload i, 2)) (hv : lv[i]? = some (some (.int x))) (k : Wq G M E bc bs (pc + 2) lv ll (.int x :: st) Γ σ) : Wq G M E bc bs pc lv ll st Γ σ := Wq.lift (fun hx hb hl kk => lv_iload hx hb hd (hl.at hv) kk) k
theorem x_lload {G : Ctx} {M : Mth} {E : Ev} {bc bs pc : Nat} {lv : List (Option Value)} {ll : List (Nat × Int64)} {st : List Value} {Γ : List Sh} {σ : Mem} {i : Nat} {x : Int64} (hd : decode (mcd M) pc = .ok (.lload i, 2)) (hv : (i, x) ∈ ll) (k : Wq G M E bc bs (pc + 2) lv ll (.long x :: st) Γ σ) : Wq G M E bc bs pc lv ll st Γ σ := Wq.lift (fun hx hb hl kk => lv_lload hx hb hd (hl.atL hv) kk) k
theorem x_aload {G : Ctx} {M : Mth} {E : Ev} {bc bs pc : Nat} {lv : List (Option Value)} {ll : List (Nat × Int64)} {st : List Value} {Γ : List Sh} {σ : Mem} {i : Nat} {x : Nat} (hd : decode (mcd M) pc = .ok (.aload i, 2)) (hv : lv[i]? = some (some (rf G x))) (k : Wq G M E bc bs (pc + 2) lv ll (rf G x :: st) Γ σ) : Wq G M E bc bs pc lv ll st Γ σ := Wq.lift (fun hx hb hl kk => lv_aload hx hb hd (hl.at hv) kk) k
theorem x_aloadE {G : Ctx} {M : Mth} {E : Ev} {bc bs pc : Nat} {lv : List (Option Value)} {ll : List (Nat × Int64)} {st : List Value} {Γ : List Sh} {σ : Mem} {i : Nat} {x : Nat} (hd : decode (mcd M) pc = .ok (.aload i, 2)) (hv : lv[i]? = some (some (.ref x))) (k : Wq G M E bc bs (pc + 2) lv ll (.ref x :: st) Γ σ) : Wq G M E bc bs pc lv ll st Γ σ := Wq.lift (fun hx hb hl kk => lv_aload hx hb hd (hl.at hv) kk) k
theorem x_aloadN {G : Ctx} {M : Mth} {E : Ev} {bc bs pc : Nat} {lv : List (Option Value)} {ll : List (Nat × Int64)} {st : List Value} {Γ : List Sh} {σ : Mem} {i : Nat} (hd : decode (mcd M) pc = .ok (.aload i, 2)) (hv : lv[i]? = some (some .null)) (k : Wq G M E bc bs (pc + 2) lv ll (.null :: st) Γ σ) : Wq G M E bc bs pc lv ll st Γ σ := Wq.lift (fun hx hb hl kk => lv_aloadN hx hb hd (hl.at hv) kk) k
theorem x_iadd {G : Ctx} {M : Mth} {E : Ev} {bc bs pc : Nat} {lv : List (Option Value)} {ll : List (Nat × Int64)} {st : List Value} {Γ : List Sh} {σ : Mem} {x y : Int32} (hd : decode (mcd M) pc = .ok (.iadd, 1)) (k : Wq G M E bc bs (pc + 1) lv ll (.int (x + y) :: st) Γ σ) : Wq G M E bc bs pc lv ll (.int y :: .int x :: st) Γ σ := Wq.lift (fun hx hb hl kk => lv_iadd hx hb hd kk) k
theorem x_isub {G : Ctx} {M : Mth} {E : Ev} {bc bs pc : Nat} {lv : List (Option Value)} {ll : List (Nat × Int64)} {st : List Value} {Γ : List Sh} {σ : Mem} {x y : Int32} (hd : decode (mcd M) pc = .ok (.isub, 1)) (k : Wq G M E bc bs (pc + 1) lv ll (.int (x - y) :: st) Γ σ) : Wq G M E bc bs pc lv ll (.int y :: .int x :: st) Γ σ := Wq.lift (fun hx hb hl kk => lv_isub hx hb hd kk) k
theorem x_imul {G : Ctx} {M : Mth} {E : Ev} {bc bs pc : Nat} {lv : List (Option Value)} {ll : List (Nat × Int64)} {st : List Value} {Γ : List Sh} {σ : Mem} {x y : Int32} (hd : decode (mcd M) pc = .ok (.imul, 1)) (k : Wq G M E bc bs (pc + 1) lv ll (.int (x * y) :: st) Γ σ) : Wq G M E bc bs pc lv ll (.int y :: .int x :: st) Γ σ := Wq.lift (fun hx hb hl kk => lv_imul hx hb hd kk) k
theorem x_iand {G : Ctx} {M : Mth} {E : Ev} {bc bs pc : Nat} {lv : List (Option Value)} {ll : List (Nat × Int64)} {st : List Value} {Γ : List Sh} {σ : Mem} {x y : Int32} (hd : decode (mcd M) pc = .ok (.iand, 1)) (k : Wq G M E bc bs (pc + 1) lv ll (.int (x &&& y) :: st) Γ σ) : Wq G M E bc bs pc lv ll (.int y :: .int x :: st) Γ σ := Wq.lift (fun hx hb hl kk => lv_iand hx hb hd kk) k
theorem x_ior {G : Ctx} {M : Mth} {E : Ev} {bc bs pc : Nat} {lv : List (Option Value)} {ll : List (Nat × Int64)} {st : List Value} {Γ : List Sh} {σ : Mem} {x y : Int32} (hd : decode (mcd M) pc = .ok (.ior, 1)) (k : Wq G M E bc bs (pc + 1) lv ll (.int (x ||| y) :: st) Γ σ) : Wq G M E bc bs pc lv ll (.int y :: .int x :: st) Γ σ := Wq.lift (fun hx hb hl kk => lv_ior hx hb hd kk) k
theorem x_ixor {G : Ctx} {M : Mth} {E : Ev} {bc bs pc : Nat} {lv : List (Option Value)} {ll : List (Nat × Int64)} {st : List Value} {Γ : List Sh} {σ : Mem} {x y : Int32} (hd : decode (mcd M) pc = .ok (.ixor, 1)) (k : Wq G M E bc bs (pc + 1) lv ll (.int (x ^^^ y) :: st) Γ σ) : Wq G M E bc bs pc lv ll (.int y :: .int x :: st) Γ σ := Wq.lift (fun hx hb hl kk => lv_ixor hx hb hd kk) k
theorem x_ladd {G : Ctx} {M : Mth} {E : Ev} {bc bs pc : Nat} {lv : List (Option Value)} {ll : List (Nat × Int64)} {st : List Value} {Γ : List Sh} {σ : Mem} {x y : Int64} (hd : decode (mcd M) pc = .ok (.ladd, 1)) (k : Wq G M E bc bs (pc + 1) lv ll (.long (x + y) :: st) Γ σ) : Wq G M E bc bs pc lv ll (.long y :: .long x :: st) Γ σ := Wq.lift (fun hx hb hl kk => lv_ladd hx hb hd kk) k
theorem x_lsub {G : Ctx} {M : Mth} {E : Ev} {bc bs pc : Nat} {lv : List (Option Value)} {ll : List (Nat × Int64)} {st : List Value} {Γ : List Sh} {σ : Mem} {x y : Int64} (hd : decode (mcd M) pc = .ok (.lsub, 1)) (k : Wq G M E bc bs (pc + 1) lv ll (.long (x - y) :: st) Γ σ) : Wq G M E bc bs pc lv ll (.long y :: .long x :: st) Γ σ := Wq.lift (fun hx hb hl kk => lv_lsub hx hb hd kk) k
theorem x_lmul {G : Ctx} {M : Mth} {E : Ev} {bc bs pc : Nat} {lv : List (Option Value)} {ll : List (Nat × Int64)} {st : List Value} {Γ : List Sh} {σ : Mem} {x y : Int64} (hd : decode (mcd M) pc = .ok (.lmul, 1)) (k : Wq G M E bc bs (pc + 1) lv ll (.long (x * y) :: st) Γ σ) : Wq G M E bc bs pc lv ll (.long y :: .long x :: st) Γ σ := Wq.lift (fun hx hb hl kk => lv_lmul hx hb hd kk) k
theorem x_land {G : Ctx} {M : Mth} {E : Ev} {bc bs pc : Nat} {lv : List (Option Value)} {ll : List (Nat × Int64)} {st : List Value} {Γ : List Sh} {σ : Mem} {x y : Int64} (hd : decode (mcd M) pc = .ok (.land, 1)) (k : Wq G M E bc bs (pc + 1) lv ll (.long (x &&& y) :: st) Γ σ) : Wq G M E bc bs pc lv ll (.long y :: .long x :: st) Γ σ := Wq.lift (fun hx hb hl kk => lv_land hx hb hd kk) k
theorem x_lor {G : Ctx} {M : Mth} {E : Ev} {bc bs pc : Nat} {lv : List (Option Value)} {ll : List (Nat × Int64)} {st : List Value} {Γ : List Sh} {σ : Mem} {x y : Int64} (hd : decode (mcd M) pc = .ok (.lor, 1)) (k : Wq G M E bc bs (pc + 1) lv ll (.long (x ||| y) :: st) Γ σ) : Wq G M E bc bs pc lv ll (.long y :: .long x :: st) Γ σ := Wq.lift (fun hx hb hl kk => lv_lor hx hb hd kk) k
theorem x_lxor {G : Ctx} {M : Mth} {E : Ev} {bc bs pc : Nat} {lv : List (Option Value)} {ll : List (Nat × Int64)} {st : List Value} {Γ : List Sh} {σ : Mem} {x y : Int64} (hd : decode (mcd M) pc = .ok (.lxor, 1)) (k : Wq G M E bc bs (pc + 1) lv ll (.long (x ^^^ y) :: st) Γ σ) : Wq G M E bc bs pc lv ll (.long y :: .long x :: st) Γ σ := Wq.lift (fun hx hb hl kk => lv_lxor hx hb hd kk) k
theorem x_ineg {G : Ctx} {M : Mth} {E : Ev} {bc bs pc : Nat} {lv : List (Option Value)} {ll : List (Nat × Int64)} {st : List Value} {Γ : List Sh} {σ : Mem} {x : Int32} (hd : decode (mcd M) pc = .ok (.ineg, 1)) (k : Wq G M E bc bs (pc + 1) lv ll (.int (-x) :: st) Γ σ) : Wq G M E bc bs pc lv ll (.int x :: st) Γ σ := Wq.lift (fun hx hb hl kk => lv_ineg hx hb hd kk) k
theorem x_ishl {G : Ctx} {M : Mth} {E : Ev} {bc bs pc : Nat} {lv : List (Option Value)} {ll : List (Nat × Int64)} {st : List Value} {Γ : List Sh} {σ : Mem} {x y : Int32} (hd : decode (mcd M) pc = .ok (.ishl, 1)) (k : Wq G M E bc bs (pc + 1) lv ll (.int (x <<< (y &&& 31)) :: st) Γ σ) : Wq G M E bc bs pc lv ll (.int y :: .int x :: st) Γ σ := Wq.lift (fun hx hb hl kk => lv_ishl hx hb hd kk) k
theorem x_ishr {G : Ctx} {M : Mth} {E : Ev} {bc bs pc : Nat} {lv : List (Option Value)} {ll : List (Nat × Int64)} {st : List Value} {Γ : List Sh} {σ : Mem} {x y : Int32} (hd : decode (mcd M) pc = .ok (.ishr, 1)) (k : Wq G M E bc bs (pc + 1) lv ll (.int (x >>> (y &&& 31)) :: st) Γ σ) : Wq G M E bc bs pc lv ll (.int y :: .int x :: st) Γ σ := Wq.lift (fun hx hb hl kk => lv_ishr hx hb hd kk) k
theorem x_iushr {G : Ctx} {M : Mth} {E : Ev} {bc bs pc : Nat} {lv : List (Option Value)} {ll : List (Nat × Int64)} {st : List Value} {Γ : List Sh} {σ : Mem} {x y : Int32} (hd : decode (mcd M) pc = .ok (.iushr, 1)) (k : Wq G M E bc bs (pc + 1) lv ll (.int ((x.toUInt32 >>> (y.toUInt32 &&& Int32.toUInt32 31)).toInt32) :: st) Γ σ) : Wq G M E bc bs pc lv ll (.int y :: .int x :: st) Γ σ := Wq.lift (fun hx hb hl kk => lv_iushr hx hb hd rfl kk) k
theorem x_lushr {G : Ctx} {M : Mth} {E : Ev} {bc bs pc : Nat} {lv : List (Option Value)} {ll : List (Nat × Int64)} {st : List Value} {Γ : List Sh} {σ : Mem} {x : Int64} {y : Int32} (hd : decode (mcd M) pc = .ok (.lushr, 1)) (k : Wq G M E bc bs (pc + 1) lv ll (.long ((x.toUInt64 >>> (y.toInt64.toUInt64 &&& Int64.toUInt64 63)).toInt64) :: st) Γ σ) : Wq G M E bc bs pc lv ll (.int y :: .long x :: st) Γ σ := Wq.lift (fun hx hb hl kk => lv_lushr hx hb hd rfl kk) k
theorem x_lshl {G : Ctx} {M : Mth} {E : Ev} {bc bs pc : Nat} {lv : List (Option Value)} {ll : List (Nat × Int64)} {st : List Value} {Γ : List Sh} {σ : Mem} {x : Int64} {y : Int32} (hd : decode (mcd M) pc = .ok (.lshl, 1)) (k : Wq G M E bc bs (pc + 1) lv ll (.long (x <<< (y.toInt64 &&& 63)) :: st) Γ σ) : Wq G M E bc bs pc lv ll (.int y :: .long x :: st) Γ σ := Wq.lift (fun hx hb hl kk => lv_lshl hx hb hd rfl kk) k
theorem x_lshr {G : Ctx} {M : Mth} {E : Ev} {bc bs pc : Nat} {lv : List (Option Value)} {ll : List (Nat × Int64)} {st : List Value} {Γ : List Sh} {σ : Mem} {x : Int64} {y : Int32} (hd : decode (mcd M) pc = .ok (.lshr, 1)) (k : Wq G M E bc bs (pc + 1) lv ll (.long (x >>> (y.toInt64 &&& 63)) :: st) Γ σ) : Wq G M E bc bs pc lv ll (.int y :: .long x :: st) Γ σ := Wq.lift (fun hx hb hl kk => lv_lshr hx hb hd rfl kk) k
theorem x_i2l {G : Ctx} {M : Mth} {E : Ev} {bc bs pc : Nat} {lv : List (Option Value)} {ll : List (Nat × Int64)} {st : List Value} {Γ : List Sh} {σ : Mem} {x : Int32} (hd : decode (mcd M) pc = .ok (.i2l, 1)) (k : Wq G M E bc bs (pc + 1) lv ll (.long x.toInt64 :: st) Γ σ) : Wq G M E bc bs pc lv ll (.int x :: st) Γ σ := Wq.lift (fun hx hb hl kk => lv_i2l hx hb hd rfl kk) k
theorem x_l2i {G : Ctx} {M : Mth} {E : Ev} {bc bs pc : Nat} {lv : List (Option Value)} {ll : List (Nat × Int64)} {st : List Value} {Γ : List Sh} {σ : Mem} {x : Int64} (hd : decode (mcd M) pc = .ok (.l2i, 1)) (k : Wq G M E bc bs (pc + 1) lv ll (.int x.toInt32 :: st) Γ σ) : Wq G M E bc bs pc lv ll (.long x :: st) Γ σ := Wq.lift (fun hx hb hl kk => lv_l2i hx hb hd rfl kk) k
theorem x_i2b {G : Ctx} {M : Mth} {E : Ev} {bc bs pc : Nat} {lv : List (Option Value)} {ll : List (Nat × Int64)} {st : List Value} {Γ : List Sh} {σ : Mem} {x : Int32} (hd : decode (mcd M) pc = .ok (.i2b, 1)) (k : Wq G M E bc bs (pc + 1) lv ll (.int x.toInt8.toInt32 :: st) Γ σ) : Wq G M E bc bs pc lv ll (.int x :: st) Γ σ := Wq.lift (fun hx hb hl kk => lv_i2b hx hb hd rfl kk) k
theorem x_i2c {G : Ctx} {M : Mth} {E : Ev} {bc bs pc : Nat} {lv : List (Option Value)} {ll : List (Nat × Int64)} {st : List Value} {Γ : List Sh} {σ : Mem} {x : Int32} (hd : decode (mcd M) pc = .ok (.i2c, 1)) (k : Wq G M E bc bs (pc + 1) lv ll (.int (x.toUInt32 % 65536).toInt32 :: st) Γ σ) : Wq G M E bc bs pc lv ll (.int x :: st) Γ σ := Wq.lift (fun hx hb hl kk => lv_i2c hx hb hd rfl kk) k
theorem x_dup {G : Ctx} {M : Mth} {E : Ev} {bc bs pc : Nat} {lv : List (Option Value)} {ll : List (Nat × Int64)} {st : List Value} {Γ : List Sh} {σ : Mem} {va : Value} (hd : decode (mcd M) pc = .ok (.dup, 1)) (hva : va.category = 1) (k : Wq G M E bc bs (pc + 1) lv ll (va :: va :: st) Γ σ) : Wq G M E bc bs pc lv ll (va :: st) Γ σ := Wq.lift (fun hx hb hl kk => lv_dup hx hb hd hva kk) k
theorem x_pop {G : Ctx} {M : Mth} {E : Ev} {bc bs pc : Nat} {lv : List (Option Value)} {ll : List (Nat × Int64)} {st : List Value} {Γ : List Sh} {σ : Mem} {va : Value} (hd : decode (mcd M) pc = .ok (.pop, 1)) (hva : va.category = 1) (k : Wq G M E bc bs (pc + 1) lv ll st Γ σ) : Wq G M E bc bs pc lv ll (va :: st) Γ σ := Wq.lift (fun hx hb hl kk => lv_pop hx hb hd hva kk) k
theorem x_dup_x1 {G : Ctx} {M : Mth} {E : Ev} {bc bs pc : Nat} {lv : List (Option Value)} {ll : List (Nat × Int64)} {st : List Value} {Γ : List Sh} {σ : Mem} {va vb : Value} (hd : decode (mcd M) pc = .ok (.dup_x1, 1)) (hva : va.category = 1) (hvb : vb.category = 1) (k : Wq G M E bc bs (pc + 1) lv ll (va :: vb :: va :: st) Γ σ) : Wq G M E bc bs pc lv ll (va :: vb :: st) Γ σ := Wq.lift (fun hx hb hl kk => lv_dup_x1 hx hb hd hva hvb kk) k
theorem x_dup_x2 {G : Ctx} {M : Mth} {E : Ev} {bc bs pc : Nat} {lv : List (Option Value)} {ll : List (Nat × Int64)} {st : List Value} {Γ : List Sh} {σ : Mem} {va vb vd : Value} (hd : decode (mcd M) pc = .ok (.dup_x2, 1)) (hva : va.category = 1) (hvb : vb.category = 1) (hvd : vd.category = 1) (k : Wq G M E bc bs (pc + 1) lv ll (va :: vb :: vd :: va :: st) Γ σ) : Wq G M E bc bs pc lv ll (va :: vb :: vd :: st) Γ σ := Wq.lift (fun hx hb hl kk => lv_dup_x2 hx hb hd hva hvb hvd kk) k
theorem x_dup2 {G : Ctx} {M : Mth} {E : Ev} {bc bs pc : Nat} {lv : List (Option Value)} {ll : List (Nat × Int64)} {st : List Value} {Γ : List Sh} {σ : Mem} {va vb : Value} (hd : decode (mcd M) pc = .ok (.dup2, 1)) (hva : va.category = 1) (hvb : vb.category = 1) (k : Wq G M E bc bs (pc + 1) lv ll (va :: vb :: va :: vb :: st) Γ σ) : Wq G M E bc bs pc lv ll (va :: vb :: st) Γ σ := Wq.lift (fun hx hb hl kk => lv_dup2_11 hx hb hd hva hvb kk) k
theorem x_dup2L {G : Ctx} {M : Mth} {E : Ev} {bc bs pc : Nat} {lv : List (Option Value)} {ll : List (Nat × Int64)} {st : List Value} {Γ : List Sh} {σ : Mem} {va : Value} (hd : decode (mcd M) pc = .ok (.dup2, 1)) (hva : va.category = 2) (k : Wq G M E bc bs (pc + 1) lv ll (va :: va :: st) Γ σ) : Wq G M E bc bs pc lv ll (va :: st) Γ σ := Wq.lift (fun hx hb hl kk => lv_dup2_2 hx hb hd hva kk) k
theorem x_pop2L {G : Ctx} {M : Mth} {E : Ev} {bc bs pc : Nat} {lv : List (Option Value)} {ll : List (Nat × Int64)} {st : List Value} {Γ : List Sh} {σ : Mem} {va : Value} (hd : decode (mcd M) pc = .ok (.pop2, 1)) (hva : va.category = 2) (k : Wq G M E bc bs (pc + 1) lv ll st Γ σ) : Wq G M E bc bs pc lv ll (va :: st) Γ σ := Wq.lift (fun hx hb hl kk => lv_pop2_2 hx hb hd hva kk) k
theorem x_if_eq {G : Ctx} {M : Mth} {E : Ev} {bc bs pc : Nat} {lv : List (Option Value)} {ll : List (Nat × Int64)} {st : List Value} {Γ : List Sh} {σ : Mem} {x : Int32} {off : Int} {tgt : Nat} (hd : decode (mcd M) pc = .ok (.ifCond .eq off, 3)) (ht : (pc : Int) + off = (tgt : Int)) (kt : x = 0 → Wq G M E bc bs tgt lv ll st Γ σ) (kf : ¬ (x = 0) → Wq G M E bc bs (pc + 3) lv ll st Γ σ) : Wq G M E bc bs pc lv ll (.int x :: st) Γ σ := Wq.lift2 (fun hx hb _ k1 k2 => lv_if_eq hx hb hd ht k1 k2) kt kf
theorem x_icmp_eq {G : Ctx} {M : Mth} {E : Ev} {bc bs pc : Nat} {lv : List (Option Value)} {ll : List (Nat × Int64)} {st : List Value} {Γ : List Sh} {σ : Mem} {x y : Int32} {off : Int} {tgt : Nat} (hd : decode (mcd M) pc = .ok (.if_icmp .eq off, 3)) (ht : (pc : Int) + off = (tgt : Int)) (kt : x = y → Wq G M E bc bs tgt lv ll st Γ σ) (kf : ¬ (x = y) → Wq G M E bc bs (pc + 3) lv ll st Γ σ) : Wq G M E bc bs pc lv ll (.int y :: .int x :: st) Γ σ := Wq.lift2 (fun hx hb _ k1 k2 => lv_icmp_eq hx hb hd ht k1 k2) kt kf
theorem x_if_ne {G : Ctx} {M : Mth} {E : Ev} {bc bs pc : Nat} {lv : List (Option Value)} {ll : List (Nat × Int64)} {st : List Value} {Γ : List Sh} {σ : Mem} {x : Int32} {off : Int} {tgt : Nat} (hd : decode (mcd M) pc = .ok (.ifCond .ne off, 3)) (ht : (pc : Int) + off = (tgt : Int)) (kt : ¬ x = 0 → Wq G M E bc bs tgt lv ll st Γ σ) (kf : x = 0 → Wq G M E bc bs (pc + 3) lv ll st Γ σ) : Wq G M E bc bs pc lv ll (.int x :: st) Γ σ := Wq.lift2 (fun hx hb _ k1 k2 => lv_if_ne hx hb hd ht k1 k2) kt kf
theorem x_icmp_ne {G : Ctx} {M : Mth} {E : Ev} {bc bs pc : Nat} {lv : List (Option Value)} {ll : List (Nat × Int64)} {st : List Value} {Γ : List Sh} {σ : Mem} {x y : Int32} {off : Int} {tgt : Nat} (hd : decode (mcd M) pc = .ok (.if_icmp .ne off, 3)) (ht : (pc : Int) + off = (tgt : Int)) (kt : ¬ x = y → Wq G M E bc bs tgt lv ll st Γ σ) (kf : x = y → Wq G M E bc bs (pc + 3) lv ll st Γ σ) : Wq G M E bc bs pc lv ll (.int y :: .int x :: st) Γ σ := Wq.lift2 (fun hx hb _ k1 k2 => lv_icmp_ne hx hb hd ht k1 k2) kt kf
theorem x_if_lt {G : Ctx} {M : Mth} {E : Ev} {bc bs pc : Nat} {lv : List (Option Value)} {ll : List (Nat × Int64)} {st : List Value} {Γ : List Sh} {σ : Mem} {x : Int32} {off : Int} {tgt : Nat} (hd : decode (mcd M) pc = .ok (.ifCond .lt off, 3)) (ht : (pc : Int) + off = (tgt : Int)) (kt : x < 0 → Wq G M E bc bs tgt lv ll st Γ σ) (kf : ¬ (x < 0) → Wq G M E bc bs (pc + 3) lv ll st Γ σ) : Wq G M E bc bs pc lv ll (.int x :: st) Γ σ := Wq.lift2 (fun hx hb _ k1 k2 => lv_if_lt hx hb hd ht k1 k2) kt kf
theorem x_icmp_lt {G : Ctx} {M : Mth} {E : Ev} {bc bs pc : Nat} {lv : List (Option Value)} {ll : List (Nat × Int64)} {st : List Value} {Γ : List Sh} {σ : Mem} {x y : Int32} {off : Int} {tgt : Nat} (hd : decode (mcd M) pc = .ok (.if_icmp .lt off, 3)) (ht : (pc : Int) + off = (tgt : Int)) (kt : x < y → Wq G M E bc bs tgt lv ll st Γ σ) (kf : ¬ (x < y) → Wq G M E bc bs (pc + 3) lv ll st Γ σ) : Wq G M E bc bs pc lv ll (.int y :: .int x :: st) Γ σ := Wq.lift2 (fun hx hb _ k1 k2 => lv_icmp_lt hx hb hd ht k1 k2) kt kf
theorem x_if_ge {G : Ctx} {M : Mth} {E : Ev} {bc bs pc : Nat} {lv : List (Option Value)} {ll : List (Nat × Int64)} {st : List Value} {Γ : List Sh} {σ : Mem} {x : Int32} {off : Int} {tgt : Nat} (hd : decode (mcd M) pc = .ok (.ifCond .ge off, 3)) (ht : (pc : Int) + off = (tgt : Int)) (kt : 0 ≤ x → Wq G M E bc bs tgt lv ll st Γ σ) (kf : ¬ (0 ≤ x) → Wq G M E bc bs (pc + 3) lv ll st Γ σ) : Wq G M E bc bs pc lv ll (.int x :: st) Γ σ := Wq.lift2 (fun hx hb _ k1 k2 => lv_if_ge hx hb hd ht k1 k2) kt kf
theorem x_icmp_ge {G : Ctx} {M : Mth} {E : Ev} {bc bs pc : Nat} {lv : List (Option Value)} {ll : List (Nat × Int64)} {st : List Value} {Γ : List Sh} {σ : Mem} {x y : Int32} {off : Int} {tgt : Nat} (hd : decode (mcd M) pc = .ok (.if_icmp .ge off, 3)) (ht : (pc : Int) + off = (tgt : Int)) (kt : y ≤ x → Wq G M E bc bs tgt lv ll st Γ σ) (kf : ¬ (y ≤ x) → Wq G M E bc bs (pc + 3) lv ll st Γ σ) : Wq G M E bc bs pc lv ll (.int y :: .int x :: st) Γ σ := Wq.lift2 (fun hx hb _ k1 k2 => lv_icmp_ge hx hb hd ht k1 k2) kt kf
theorem x_if_gt {G : Ctx} {M : Mth} {E : Ev} {bc bs pc : Nat} {lv : List (Option Value)} {ll : List (Nat × Int64)} {st : List Value} {Γ : List Sh} {σ : Mem} {x : Int32} {off : Int} {tgt : Nat} (hd : decode (mcd M) pc = .ok (.ifCond .gt off, 3)) (ht : (pc : Int) + off = (tgt : Int)) (kt : 0 < x → Wq G M E bc bs tgt lv ll st Γ σ) (kf : ¬ (0 < x) → Wq G M E bc bs (pc + 3) lv ll st Γ σ) : Wq G M E bc bs pc lv ll (.int x :: st) Γ σ := Wq.lift2 (fun hx hb _ k1 k2 => lv_if_gt hx hb hd ht k1 k2) kt kf
theorem x_icmp_gt {G : Ctx} {M : Mth} {E : Ev} {bc bs pc : Nat} {lv : List (Option Value)} {ll : List (Nat × Int64)} {st : List Value} {Γ : List Sh} {σ : Mem} {x y : Int32} {off : Int} {tgt : Nat} (hd : decode (mcd M) pc = .ok (.if_icmp .gt off, 3)) (ht : (pc : Int) + off = (tgt : Int)) (kt : y < x → Wq G M E bc bs tgt lv ll st Γ σ) (kf : ¬ (y < x) → Wq G M E bc bs (pc + 3) lv ll st Γ σ) : Wq G M E bc bs pc lv ll (.int y :: .int x :: st) Γ σ := Wq.lift2 (fun hx hb _ k1 k2 => lv_icmp_gt hx hb hd ht k1 k2) kt kf
theorem x_if_le {G : Ctx} {M : Mth} {E : Ev} {bc bs pc : Nat} {lv : List (Option Value)} {ll : List (Nat × Int64)} {st : List Value} {Γ : List Sh} {σ : Mem} {x : Int32} {off : Int} {tgt : Nat} (hd : decode (mcd M) pc = .ok (.ifCond .le off, 3)) (ht : (pc : Int) + off = (tgt : Int)) (kt : x ≤ 0 → Wq G M E bc bs tgt lv ll st Γ σ) (kf : ¬ (x ≤ 0) → Wq G M E bc bs (pc + 3) lv ll st Γ σ) : Wq G M E bc bs pc lv ll (.int x :: st) Γ σ := Wq.lift2 (fun hx hb _ k1 k2 => lv_if_le hx hb hd ht k1 k2) kt kf
theorem x_icmp_le {G : Ctx} {M : Mth} {E : Ev} {bc bs pc : Nat} {lv : List (Option Value)} {ll : List (Nat × Int64)} {st : List Value} {Γ : List Sh} {σ : Mem} {x y : Int32} {off : Int} {tgt : Nat} (hd : decode (mcd M) pc = .ok (.if_icmp .le off, 3)) (ht : (pc : Int) + off = (tgt : Int)) (kt : x ≤ y → Wq G M E bc bs tgt lv ll st Γ σ) (kf : ¬ (x ≤ y) → Wq G M E bc bs (pc + 3) lv ll st Γ σ) : Wq G M E bc bs pc lv ll (.int y :: .int x :: st) Γ σ := Wq.lift2 (fun hx hb _ k1 k2 => lv_icmp_le hx hb hd ht k1 k2) kt kf
theorem x_goto {G : Ctx} {M : Mth} {E : Ev} {bc bs pc : Nat} {lv : List (Option Value)} {ll : List (Nat × Int64)} {st : List Value} {Γ : List Sh} {σ : Mem} {off : Int} {tgt : Nat} (hd : decode (mcd M) pc = .ok (.goto off, 3)) (ht : (pc : Int) + off = (tgt : Int)) (k : Wq G M E bc bs tgt lv ll st Γ σ) : Wq G M E bc bs pc lv ll st Γ σ := Wq.lift (fun hx hb _ kk => lv_goto hx hb hd ht kk) k
theorem x_ifnonnull {G : Ctx} {M : Mth} {E : Ev} {bc bs pc : Nat} {lv : List (Option Value)} {ll : List (Nat × Int64)} {st : List Value} {Γ : List Sh} {σ : Mem} {x : Nat} {off : Int} {tgt : Nat} (hd : decode (mcd M) pc = .ok (.ifnonnull off, 3)) (ht : (pc : Int) + off = (tgt : Int)) (k : Wq G M E bc bs tgt lv ll st Γ σ) : Wq G M E bc bs pc lv ll (rf G x :: st) Γ σ := Wq.lift (fun hx hb _ kk => lv_ifnonnull hx hb hd ht kk) k
theorem x_ifnonnullN {G : Ctx} {M : Mth} {E : Ev} {bc bs pc : Nat} {lv : List (Option Value)} {ll : List (Nat × Int64)} {st : List Value} {Γ : List Sh} {σ : Mem} {off : Int} (hd : decode (mcd M) pc = .ok (.ifnonnull off, 3)) (k : Wq G M E bc bs (pc + 3) lv ll st Γ σ) : Wq G M E bc bs pc lv ll (.null :: st) Γ σ := Wq.lift (fun hx hb _ kk => lv_ifnonnullN hx hb hd kk) k
theorem x_ifnull {G : Ctx} {M : Mth} {E : Ev} {bc bs pc : Nat} {lv : List (Option Value)} {ll : List (Nat × Int64)} {st : List Value} {Γ : List Sh} {σ : Mem} {x : Nat} {off : Int} (hd : decode (mcd M) pc = .ok (.ifnull off, 3)) (k : Wq G M E bc bs (pc + 3) lv ll st Γ σ) : Wq G M E bc bs pc lv ll (rf G x :: st) Γ σ := Wq.lift (fun hx hb _ kk => lv_ifnull hx hb hd kk) k
theorem x_ifnullN {G : Ctx} {M : Mth} {E : Ev} {bc bs pc : Nat} {lv : List (Option Value)} {ll : List (Nat × Int64)} {st : List Value} {Γ : List Sh} {σ : Mem} {off : Int} {tgt : Nat} (hd : decode (mcd M) pc = .ok (.ifnull off, 3)) (ht : (pc : Int) + off = (tgt : Int)) (k : Wq G M E bc bs tgt lv ll st Γ σ) : Wq G M E bc bs pc lv ll (.null :: st) Γ σ := Wq.lift (fun hx hb _ kk => lv_ifnullN hx hb hd ht kk) k
theorem x_istore_n {G : Ctx} {M : Mth} {E : Ev} {bc bs pc : Nat} {lv : List (Option Value)} {ll : List (Nat × Int64)} {st : List Value} {Γ : List Sh} {σ : Mem} {k4 : Fin 4} {i : Nat} {x : Int32} (hd : decode (mcd M) pc = .ok (.istore_n k4, 1)) (hi : (k4 : Nat) = i) (hb4 : (decide (i < mL M) && ll.all (fun q => !(q.1 == i) && !(q.1 + 1 == i))) = true) (k : Wq G M E bc bs (pc + 1) (lv.set i (some (.int x))) ll st Γ σ) : Wq G M E bc bs pc lv ll (.int x :: st) Γ σ := Wq.liftL (fun hx hb hl kk => lv_istore_n hx hb hd hi hl.1 (of_decide_eq_true (Bool.and_eq_true_iff.mp hb4).1) rfl (fun ls' h' => kk ls' (lvR.put hl.2 rfl (Bool.and_eq_true_iff.mp hb4).2 h'))) k
theorem x_astore_n {G : Ctx} {M : Mth} {E : Ev} {bc bs pc : Nat} {lv : List (Option Value)} {ll : List (Nat × Int64)} {st : List Value} {Γ : List Sh} {σ : Mem} {k4 : Fin 4} {i : Nat} {x : Nat} (hd : decode (mcd M) pc = .ok (.astore_n k4, 1)) (hi : (k4 : Nat) = i) (hb4 : (decide (i < mL M) && ll.all (fun q => !(q.1 == i) && !(q.1 + 1 == i))) = true) (k : Wq G M E bc bs (pc + 1) (lv.set i (some (rf G x))) ll st Γ σ) : Wq G M E bc bs pc lv ll (rf G x :: st) Γ σ := Wq.liftL (fun hx hb hl kk => lv_astore_n hx hb hd hi hl.1 (of_decide_eq_true (Bool.and_eq_true_iff.mp hb4).1) rfl (fun ls' h' => kk ls' (lvR.put hl.2 rfl (Bool.and_eq_true_iff.mp hb4).2 h'))) k
theorem x_astoreE_n {G : Ctx} {M : Mth} {E : Ev} {bc bs pc : Nat} {lv : List (Option Value)} {ll : List (Nat × Int64)} {st : List Value} {Γ : List Sh} {σ : Mem} {k4 : Fin 4} {i : Nat} {x : Nat} (hd : decode (mcd M) pc = .ok (.astore_n k4, 1)) (hi : (k4 : Nat) = i) (hb4 : (decide (i < mL M) && ll.all (fun q => !(q.1 == i) && !(q.1 + 1 == i))) = true) (k : Wq G M E bc bs (pc + 1) (lv.set i (some (.ref x))) ll st Γ σ) : Wq G M E bc bs pc lv ll (.ref x :: st) Γ σ := Wq.liftL (fun hx hb hl kk => lv_astore_n hx hb hd hi hl.1 (of_decide_eq_true (Bool.and_eq_true_iff.mp hb4).1) rfl (fun ls' h' => kk ls' (lvR.put hl.2 rfl (Bool.and_eq_true_iff.mp hb4).2 h'))) k
theorem x_astoreN_n {G : Ctx} {M : Mth} {E : Ev} {bc bs pc : Nat} {lv : List (Option Value)} {ll : List (Nat × Int64)} {st : List Value} {Γ : List Sh} {σ : Mem} {k4 : Fin 4} {i : Nat} (hd : decode (mcd M) pc = .ok (.astore_n k4, 1)) (hi : (k4 : Nat) = i) (hb4 : (decide (i < mL M) && ll.all (fun q => !(q.1 == i) && !(q.1 + 1 == i))) = true) (k : Wq G M E bc bs (pc + 1) (lv.set i (some (.null))) ll st Γ σ) : Wq G M E bc bs pc lv ll (.null :: st) Γ σ := Wq.liftL (fun hx hb hl kk => lv_astore_nN hx hb hd hi hl.1 (of_decide_eq_true (Bool.and_eq_true_iff.mp hb4).1) rfl (fun ls' h' => kk ls' (lvR.put hl.2 rfl (Bool.and_eq_true_iff.mp hb4).2 h'))) k
theorem x_lstore_n {G : Ctx} {M : Mth} {E : Ev} {bc bs pc : Nat} {lv : List (Option Value)} {ll : List (Nat × Int64)} {st : List Value} {Γ : List Sh} {σ : Mem} {k4 : Fin 4} {i : Nat} {x : Int64} (hd : decode (mcd M) pc = .ok (.lstore_n k4, 1)) (hi : (k4 : Nat) = i) (hb4 : (decide (i + 1 < mL M) && ll.all (fun q => (q.1 == i) || (!(q.1 == i + 1) && !(q.1 + 1 == i)))) = true) (k : Wq G M E bc bs (pc + 1) ((lv.set i none).set (i + 1) none) ((i, x) :: ll.filter (fun q => !(q.1 == i))) st Γ σ) : Wq G M E bc bs pc lv ll (.long x :: st) Γ σ := Wq.liftL (fun hx hb hl kk => lv_lstore_n hx hb hd hi hl.1 (of_decide_eq_true (Bool.and_eq_true_iff.mp hb4).1) rfl (fun ls' h' => kk ls' (lvR.putL hl.2 (Bool.and_eq_true_iff.mp hb4).2 h'))) k
theorem x_istore {G : Ctx} {M : Mth} {E : Ev} {bc bs pc : Nat} {lv : List (Option Value)} {ll : List (Nat × Int64)} {st : List Value} {Γ : List Sh} {σ : Mem} {i : Nat} {x : Int32} (hd : decode (mcd M) pc = .ok (.istore i, 2)) (hb4 : (decide (i < mL M) && ll.all (fun q => !(q.1 == i) && !(q.1 + 1 == i))) = true) (k : Wq G M E bc bs (pc + 2) (lv.set i (some (.int x))) ll st Γ σ) : Wq G M E bc bs pc lv ll (.int x :: st) Γ σ := Wq.liftL (fun hx hb hl kk => lv_istore hx hb hd hl.1 (of_decide_eq_true (Bool.and_eq_true_iff.mp hb4).1) rfl (fun ls' h' => kk ls' (lvR.put hl.2 rfl (Bool.and_eq_true_iff.mp hb4).2 h'))) k
theorem x_astore {G : Ctx} {M : Mth} {E : Ev} {bc bs pc : Nat} {lv : List (Option Value)} {ll : List (Nat × Int64)} {st : List Value} {Γ : List Sh} {σ : Mem} {i : Nat} {x : Nat} (hd : decode (mcd M) pc = .ok (.astore i, 2)) (hb4 : (decide (i < mL M) && ll.all (fun q => !(q.1 == i) && !(q.1 + 1 == i))) = true) (k : Wq G M E bc bs (pc + 2) (lv.set i (some (rf G x))) ll st Γ σ) : Wq G M E bc bs pc lv ll (rf G x :: st) Γ σ := Wq.liftL (fun hx hb hl kk => lv_astore hx hb hd hl.1 (of_decide_eq_true (Bool.and_eq_true_iff.mp hb4).1) rfl (fun ls' h' => kk ls' (lvR.put hl.2 rfl (Bool.and_eq_true_iff.mp hb4).2 h'))) k
theorem x_astoreE {G : Ctx} {M : Mth} {E : Ev} {bc bs pc : Nat} {lv : List (Option Value)} {ll : List (Nat × Int64)} {st : List Value} {Γ : List Sh} {σ : Mem} {i : Nat} {x : Nat} (hd : decode (mcd M) pc = .ok (.astore i, 2)) (hb4 : (decide (i < mL M) && ll.all (fun q => !(q.1 == i) && !(q.1 + 1 == i))) = true) (k : Wq G M E bc bs (pc + 2) (lv.set i (some (.ref x))) ll st Γ σ) : Wq G M E bc bs pc lv ll (.ref x :: st) Γ σ := Wq.liftL (fun hx hb hl kk => lv_astore hx hb hd hl.1 (of_decide_eq_true (Bool.and_eq_true_iff.mp hb4).1) rfl (fun ls' h' => kk ls' (lvR.put hl.2 rfl (Bool.and_eq_true_iff.mp hb4).2 h'))) k
theorem x_astoreN {G : Ctx} {M : Mth} {E : Ev} {bc bs pc : Nat} {lv : List (Option Value)} {ll : List (Nat × Int64)} {st : List Value} {Γ : List Sh} {σ : Mem} {i : Nat} (hd : decode (mcd M) pc = .ok (.astore i, 2)) (hb4 : (decide (i < mL M) && ll.all (fun q => !(q.1 == i) && !(q.1 + 1 == i))) = true) (k : Wq G M E bc bs (pc + 2) (lv.set i (some (.null))) ll st Γ σ) : Wq G M E bc bs pc lv ll (.null :: st) Γ σ := Wq.liftL (fun hx hb hl kk => lv_astoreN hx hb hd hl.1 (of_decide_eq_true (Bool.and_eq_true_iff.mp hb4).1) rfl (fun ls' h' => kk ls' (lvR.put hl.2 rfl (Bool.and_eq_true_iff.mp hb4).2 h'))) k
theorem x_lstore {G : Ctx} {M : Mth} {E : Ev} {bc bs pc : Nat} {lv : List (Option Value)} {ll : List (Nat × Int64)} {st : List Value} {Γ : List Sh} {σ : Mem} {i : Nat} {x : Int64} (hd : decode (mcd M) pc = .ok (.lstore i, 2)) (hb4 : (decide (i + 1 < mL M) && ll.all (fun q => (q.1 == i) || (!(q.1 == i + 1) && !(q.1 + 1 == i)))) = true) (k : Wq G M E bc bs (pc + 2) ((lv.set i none).set (i + 1) none) ((i, x) :: ll.filter (fun q => !(q.1 == i))) st Γ σ) : Wq G M E bc bs pc lv ll (.long x :: st) Γ σ := Wq.liftL (fun hx hb hl kk => lv_lstore hx hb hd hl.1 (of_decide_eq_true (Bool.and_eq_true_iff.mp hb4).1) rfl (fun ls' h' => kk ls' (lvR.putL hl.2 (Bool.and_eq_true_iff.mp hb4).2 h'))) k
theorem x_iinc {G : Ctx} {M : Mth} {E : Ev} {bc bs pc : Nat} {lv : List (Option Value)} {ll : List (Nat × Int64)} {st : List Value} {Γ : List Sh} {σ : Mem} {i : Nat} {n : Int} {x v : Int32} (hd : decode (mcd M) pc = .ok (.iinc i n, 3)) (hv : lv[i]? = some (some (.int x))) (hn : x + Int32.ofInt n = v) (hb4 : (decide (i < mL M) && ll.all (fun q => !(q.1 == i) && !(q.1 + 1 == i))) = true) (k : Wq G M E bc bs (pc + 3) (lv.set i (some (.int v))) ll st Γ σ) : Wq G M E bc bs pc lv ll st Γ σ := Wq.liftL (fun hx hb hl kk => x_iinc0 hx hb hd hl hv hn (of_decide_eq_true (Bool.and_eq_true_iff.mp hb4).1) (fun ls' h' => kk ls' (lvR.put hl.2 rfl (Bool.and_eq_true_iff.mp hb4).2 h'))) k
end
section
/-! fields -/
def isI : FieldType → Bool
  | .object _ => false
  | .array _ => false
  | .long => false
  | _ => true
def isR : FieldType → Bool
  | .object _ => true
  | .array _ => true
  | _ => false
theorem fval_I {G : Ctx} {mi : Nat → Int32} {mr : Nat → Option Nat} {ml : Nat → Int64} {j : Nat} {ty : FieldType} (h : isI ty = true) : fval G mi mr ml j ty = .int (mi j) := by
  cases ty <;> first | rfl | cases h
theorem fval_R {G : Ctx} {mi : Nat → Int32} {mr : Nat → Option Nat} {ml : Nat → Int64} {j : Nat} {ty : FieldType} (h : isR ty = true) : fval G mi mr ml j ty = ov G (mr j) := by
  cases ty <;> first | rfl | cases h
theorem fval_cg {G : Ctx} {mi mi' : Nat → Int32} {mr mr' : Nat → Option Nat} {ml ml' : Nat → Int64} {j : Nat} {ty : FieldType} (h1 : mi j = mi' j) (h2 : mr j = mr' j) (h3 : ml j = ml' j) : fval G mi mr ml j ty = fval G mi' mr' ml' j ty := by
  cases ty <;> simp only [fval, h1, h2, h3]
/-- what is fixed of a class's objects -/
def KC (ci : Nat) (C : String) (T : u_T) (N : Nat) : Prop := vwCl[ci]? = some (C, T, N) ∧ (∀ w ∈ u_ws C T N, w ∈ lw_tbl ∧ goodWord w = true) ∧ (∀ k, k < N → parseFieldDescriptor (T k).2.2.1 = some (tyOf ci k)) ∧ (∀ a, a < N → ∀ b, b < N → a ≠ b → (T a).2.1 ≠ (T b).2.1)
/-- a pool entry that names the field j of class ci -/
def FR (own : String) (idx ci j : Nat) : Prop := ∃ (C : String) (T : u_T) (N : Nat) (ref : String), KC ci C T N ∧ j < N ∧
  ((Cond.fieldLink own idx ref (T j).2.1 (T j).2.2.1 ∈ lw_tbl ∧ goodWord (Cond.fieldLink own idx ref (T j).2.1 (T j).2.2.1) = true) ∨ ∃ host, Cond.fieldLinkNest own idx ref (T j).2.1 (T j).2.2.1 host ∈ lw_tbl) ∧
  (ref = (T j).1 ∨ (Cond.sameField ref (T j).1 (T j).2.1 (T j).2.2.1 ∈ lw_tbl ∧ goodWord (Cond.sameField ref (T j).1 (T j).2.1 (T j).2.2.1) = true))
/-- .. and by which it may be written: it isn't final, or its class's own constructor writes it -/
def FW (own mname : String) (idx ci j : Nat) : Prop := ∃ (C : String) (T : u_T) (N : Nat) (ref : String), KC ci C T N ∧ j < N ∧
  (((T j).2.2.2 = false ∧ ((Cond.fieldLink own idx ref (T j).2.1 (T j).2.2.1 ∈ lw_tbl ∧ goodWord (Cond.fieldLink own idx ref (T j).2.1 (T j).2.2.1) = true) ∨ ∃ host, Cond.fieldLinkNest own idx ref (T j).2.1 (T j).2.2.1 host ∈ lw_tbl)) ∨
   ((T j).2.2.2 = true ∧ mname = "<init>" ∧ (T j).1 = own ∧ Cond.fieldLink own idx ref (T j).2.1 (T j).2.2.1 ∈ lw_tbl ∧ goodWord (Cond.fieldLink own idx ref (T j).2.1 (T j).2.2.1) = true)) ∧
  (ref = (T j).1 ∨ (Cond.sameField ref (T j).1 (T j).2.1 (T j).2.2.1 ∈ lw_tbl ∧ goodWord (Cond.sameField ref (T j).1 (T j).2.1 (T j).2.2.1) = true))
section Fields
variable {G : Ctx} {M : Mth} {E : Ev} {bc bs pc idx ci j k : Nat} {lv : List (Option Value)} {ll : List (Nat × Int64)} {st : List Value} {Γ : List Sh} {σ : Mem}
theorem x_get0 (hd : decode (mcd M) pc = .ok (.getfield idx, 3)) (hF : FR (my M).cls idx ci j) (hs : Γ[k]? = some (0, ci)) (kk : Wq G M E bc bs (pc + 3) lv ll (fval G (σ.1 k) (σ.2.1 k) (σ.2.2 k) j (tyOf ci j) :: st) Γ σ) : Wq G M E bc bs pc lv ll (rf G k :: st) Γ σ := by
  intro p e s m args below meth c C H locs cells slots ls hV hS h1 h2 hl
  obtain ⟨Cn, T, N, ref, ⟨hc, hw, hty, hnm⟩, hj, hlk, hsm⟩ := hF
  obtain ⟨r, hr, cell, q1, q2, q3, q4⟩ := hV.2 k _ hs
  cases Option.some.inj (hc.symm.trans hr)
  have hts : ∀ w ∈ u_ws Cn T N, w.before args s = true := fun w h => C.wd (hw w h).1 (hw w h).2
  obtain ⟨hSl, hfc, kC, hkC, hkind⟩ := C.K.1 ci _ hc
  obtain ⟨cf, kf, fi, f, hi, hsl⟩ := hSl j hj
  have hi' : s.fieldFound? ref (T j).2.1 (T j).2.2.1 = some (cf, kf, fi, f) := by
    rcases hsm with h | ⟨h, hg⟩
    · rw [h]; exact hi
    · exact u_same (C.wd (args := args) h hg) _ hi
  have hst := (u_facts hfc hkC (u_lays hts (fun _ h => h) hj) hi).1
  rcases hlk with ⟨h, hg⟩ | ⟨host, h⟩
  · refine W.getf C.exec C.code C.own (C.wd h hg) hi' hst q1 (by rw [q3]; exact fun h => by cases h) ?_ rfl rfl hd (kk p e s m args below meth c C H locs cells slots ls hV hS h1 h2 hl)
    rw [hsl, q4 j hj]
  · refine va_Wgetf C.exec C.code C.own (va_Nw.use rfl (va_Nw.warmF C.warm (va_Nw.of rfl (C.ok.1 _ h)))) hi' hst q1 (by rw [q3]; exact fun h => by cases h) ?_ rfl rfl hd (kk p e s m args below meth c C H locs cells slots ls hV hS h1 h2 hl)
    rw [hsl, q4 j hj]
theorem x_getI (hd : decode (mcd M) pc = .ok (.getfield idx, 3)) (hF : FR (my M).cls idx ci j) (ht : isI (tyOf ci j) = true) (hs : Γ[k]? = some (0, ci)) (kk : Wq G M E bc bs (pc + 3) lv ll (.int (σ.1 k j) :: st) Γ σ) : Wq G M E bc bs pc lv ll (rf G k :: st) Γ σ :=
  x_get0 hd hF hs (by rw [fval_I ht]; exact kk)
theorem x_getR (hd : decode (mcd M) pc = .ok (.getfield idx, 3)) (hF : FR (my M).cls idx ci j) (ht : isR (tyOf ci j) = true) (hs : Γ[k]? = some (0, ci)) {k2 : Nat} (hv : σ.2.1 k j = some k2) (kk : Wq G M E bc bs (pc + 3) lv ll (rf G k2 :: st) Γ σ) : Wq G M E bc bs pc lv ll (rf G k :: st) Γ σ :=
  x_get0 hd hF hs (by rw [fval_R ht, hv]; exact kk)
theorem x_getO (hd : decode (mcd M) pc = .ok (.getfield idx, 3)) (hF : FR (my M).cls idx ci j) (ht : isR (tyOf ci j) = true) (hs : Γ[k]? = some (0, ci)) (kn : σ.2.1 k j = none → Wq G M E bc bs (pc + 3) lv ll (.null :: st) Γ σ) (ks : ∀ k2, σ.2.1 k j = some k2 → Wq G M E bc bs (pc + 3) lv ll (rf G k2 :: st) Γ σ) : Wq G M E bc bs pc lv ll (rf G k :: st) Γ σ :=
  x_get0 hd hF hs (by
    rw [fval_R ht]
    cases h : σ.2.1 k j with
    | none => exact kn h
    | some k2 => exact ks k2 h)
theorem x_put0 {σ' : Mem} {v : Value} (hd : decode (mcd M) pc = .ok (.putfield idx, 3)) (hF : FW (my M).cls (my M).name idx ci j) (hn : narrow (tyOf ci j) v = v) (hf : fits (tyOf ci j) v = true) (hs : Γ[k]? = some (0, ci))
    (h1 : ∀ a, a ≠ k → σ'.1 a = σ.1 a) (h2 : ∀ a, a ≠ k → σ'.2.1 a = σ.2.1 a) (h3 : ∀ a, a ≠ k → σ'.2.2 a = σ.2.2 a)
    (hu : ∀ i, fval G (σ'.1 k) (σ'.2.1 k) (σ'.2.2 k) i (tyOf ci i) = if i = j then v else fval G (σ.1 k) (σ.2.1 k) (σ.2.2 k) i (tyOf ci i))
    (kk : Wq G M E bc bs (pc + 3) lv ll st Γ σ') : Wq G M E bc bs pc lv ll (v :: rf G k :: st) Γ σ := by
  intro p e s m args below meth c C H locs cells slots ls hV hS g1 g2 hl
  obtain ⟨Cn, T, N, ref, ⟨hc, hw, hty, hnm⟩, hj, hlk, hsm⟩ := hF
  obtain ⟨r, hr, cell, q1, q2, q3, q4⟩ := hV.2 k _ hs
  cases Option.some.inj (hc.symm.trans hr)
  have hts : ∀ w ∈ u_ws Cn T N, w.before args s = true := fun w h => C.wd (hw w h).1 (hw w h).2
  have hap := va_apart (own := (my M).cls) hts (fun _ h => h) (tyOf ci) hty hnm C.K hc
  obtain ⟨hSl, hfc, kC, hkC, hkind⟩ := C.K.1 ci _ hc
  obtain ⟨cf, kf, fi, f, hi, hsl⟩ := hSl j hj
  have hi' : s.fieldFound? ref (T j).2.1 (T j).2.2.1 = some (cf, kf, fi, f) := by
    rcases hsm with h | ⟨h, hg⟩
    · rw [h]; exact hi
    · exact u_same (C.wd (args := args) h hg) _ hi
  have hst := (u_facts hfc hkC (u_lays hts (fun _ h => h) hj) hi).1
  have hlay := hts _ (u_in_lay hj)
  unfold u_lay at hlay
  have fin : ∀ H' : Heap, H'[cB G + k]? = some (cell.setSlot f.slot v) → H'.size = H.size → (∀ q : Nat, q ≠ cB G + k → H'[q]? = H[q]?) → W p (cL G) e (eR E) s m args below meth c H' (locs ++ [⟨cB G + k, f.slot⟩]) cells slots (eZ E below args s) (F0 m (pc + 3) ls st) := by
    intro H' e1 e2 e3
    rw [hsl] at e1
    refine kk p e s m args below meth c C H' _ cells slots ls (hV.upd hs h1 h2 h3 e2 e3 ⟨_, hc, t_OB.to (V := updV (fun i => fval G (σ.1 k) (σ.2.1 k) (σ.2.2 k) i (tyOf ci i)) j v) ⟨_, e1, q2, q3, t_set q4 hap hj v⟩ (fun i _ => ?_)⟩) (hS.put e2 e3 (Nat.le_add_right _ _)) g1 g2 hl
    rw [hu i]
    rfl
  rcases hlk with ⟨hfin, hlk⟩ | ⟨hfin, hini, hdecl, h, hg⟩
  · rw [if_neg (by rw [hfin]; decide)] at hlay
    have h6 := u_store hfc hkC hkind hlay hi (hty j hj) hn hf
    rcases hlk with ⟨h, hg⟩ | ⟨host, h⟩
    · exact W.putK C.exec C.code (f := f) ⟨C.own, C.wd h hg, ⟨_, _, _, hi'⟩, hst⟩ (by rw [q2]; exact h6) q1 q3 (by rw [hsl]; exact k2_hasslot (q4 j hj)) rfl rfl hd fin
    · exact va_WputK C.exec C.code (f := f) C.own (va_Nw.use rfl (va_Nw.warmF C.warm (va_Nw.of rfl (C.ok.1 _ h)))) hi' hst (by rw [q2]; exact h6) q1 q3 (by rw [hsl]; exact k2_hasslot (q4 j hj)) rfl rfl hd fin
  · rw [if_pos hfin] at hlay
    have hcf : m.cls = cf := by
      obtain ⟨_, _, c', _, _, _, -, -, hf', -, -, -, hown2, -⟩ := Cond.laysFinal_spec hlay
      have e1 : c' = cf := by have := hi.symm.trans hf'; simp at this; exact this.1.symm
      rw [hdecl] at hown2
      rw [← e1]; exact Option.some.inj (C.own.symm.trans hown2)
    have h6 := u_fits hfc hkC hkind (Or.inr hlay) hi (hty j hj) hn hf
    exact W.putFinK C.exec C.code C.own (C.wd h hg) hi' hst hcf (C.name.trans hini) (by rw [q2]; exact h6) q1 q3 (by rw [hsl]; exact k2_hasslot (q4 j hj)) rfl rfl hd fin
theorem x_putI {x : Int32} (hd : decode (mcd M) pc = .ok (.putfield idx, 3)) (hF : FW (my M).cls (my M).name idx ci j) (ht : isI (tyOf ci j) = true) (hn : narrow (tyOf ci j) (.int x) = .int x) (hf : fits (tyOf ci j) (.int x) = true) (hs : Γ[k]? = some (0, ci)) (kk : Wq G M E bc bs (pc + 3) lv ll st Γ (wI σ k j x)) : Wq G M E bc bs pc lv ll (.int x :: rf G k :: st) Γ σ := by
  refine x_put0 hd hF hn hf hs (σ' := wI σ k j x) (fun a ha => funext fun i => ?_) (fun a ha => rfl) (fun a ha => rfl) (fun i => ?_) kk
  · simp [wI, ha]
  · by_cases e : i = j
    · subst e
      rw [if_pos rfl, fval_I ht]
      simp [wI]
    · rw [if_neg e]
      exact fval_cg (by simp [wI, e]) rfl rfl
theorem x_putQ {o : Option Nat} (hd : decode (mcd M) pc = .ok (.putfield idx, 3)) (hF : FW (my M).cls (my M).name idx ci j) (ht : isR (tyOf ci j) = true) (hs : Γ[k]? = some (0, ci)) (kk : Wq G M E bc bs (pc + 3) lv ll st Γ (wR σ k j o)) : Wq G M E bc bs pc lv ll (ov G o :: rf G k :: st) Γ σ := by
  have hnf : narrow (tyOf ci j) (ov G o) = ov G o ∧ fits (tyOf ci j) (ov G o) = true := by
    cases hty : tyOf ci j <;> rw [hty] at ht <;> first | (cases o <;> exact ⟨rfl, rfl⟩) | cases ht
  refine x_put0 hd hF hnf.1 hnf.2 hs (σ' := wR σ k j o) (fun a ha => rfl) (fun a ha => funext fun i => ?_) (fun a ha => rfl) (fun i => ?_) kk
  · simp [wR, ha]
  · by_cases e : i = j
    · subst e
      rw [if_pos rfl, fval_R ht]
      simp [wR]
    · rw [if_neg e]
      exact fval_cg rfl (by simp [wR, e]) rfl
theorem x_putR {k2 : Nat} (hd : decode (mcd M) pc = .ok (.putfield idx, 3)) (hF : FW (my M).cls (my M).name idx ci j) (ht : isR (tyOf ci j) = true) (hs : Γ[k]? = some (0, ci)) (kk : Wq G M E bc bs (pc + 3) lv ll st Γ (wR σ k j (some k2))) : Wq G M E bc bs pc lv ll (rf G k2 :: rf G k :: st) Γ σ := x_putQ (o := some k2) hd hF ht hs kk
theorem x_putN (hd : decode (mcd M) pc = .ok (.putfield idx, 3)) (hF : FW (my M).cls (my M).name idx ci j) (ht : isR (tyOf ci j) = true) (hs : Γ[k]? = some (0, ci)) (kk : Wq G M E bc bs (pc + 3) lv ll st Γ (wR σ k j none)) : Wq G M E bc bs pc lv ll (.null :: rf G k :: st) Γ σ := x_putQ (o := none) hd hF ht hs kk
end Fields
end
section
/-! methods' ends, contracts -/
def RM (d mc ms : Nat) : Room := { frames := d, cells := mc, slots := ms, locals := 40 * d }
def QC (G : Ctx) (Q : Option Value → List Sh → Mem → Prop) : Array Value → State → Outcome → State → Prop := fun _ st o t => ∃ (r : Option Value) (Γ : List Sh) (σ : Mem), o = .returned r ∧ Q r Γ σ ∧ VH G Γ σ t.heap ∧ va_F (fre G) st t
def Em (G : Ctx) (d mc ms : Nat) (Q : Option Value → List Sh → Mem → Prop) : Ev := (RM d mc ms, mc, ms, fun below args s => MQ below (QC G Q) args s mc ms (fre G))
def mws (M : Mth) : List Cond := match mhh M with
  | some (h :: t) => [.codeWith (my M) (mcd M) (mL M) (mrt M) (h :: t)]
  | _ => [.code (my M) (mcd M) (mL M) (mrt M)]
def Pcc (G : Ctx) (as : List Value) (Γ : List Sh) (σ : Mem) : Array Value → State → Prop := va_Pc as (fun U => (cS G).WarmedH U.vm ∧ cB G ≤ U.heap.size ∧ Out G U.heap ∧ VH G Γ σ U.heap)
def Ct (G : Ctx) (M : Mth) (d mc ms : Nat) (as : List Value) (Γ : List Sh) (σ : Mem) (Q : Option Value → List Sh → Mem → Prop) : Prop :=
  OKc G → Met (cL G) (my M) (mws M) (RM d mc ms) (Pcc G as Γ σ) (QC G Q) mc ms (fre G)
def EN (as : List Value) (lv : List (Option Value)) (ll : List (Nat × Int64)) (nL : Nat) : Prop := (lg_sl as).length ≤ nL ∧ (∀ (i : Nat) (v : Value), lv[i]? = some (some v) → (i, v) ∈ lv_args 0 as ∧ v.category = 1) ∧ ∀ q ∈ ll, (q.1, Value.long q.2) ∈ lv_args 0 as
def cat1 : List Value → Prop
  | [] => True
  | v :: r => v.category = 1 ∧ cat1 r
theorem cat1_sl : ∀ {as : List Value}, cat1 as → (lg_sl as).length = as.length
  | [], _ => rfl
  | v :: r, h => by
    have h2 := cat1_sl (as := r) h.2
    have h1 := h.1
    simp [lg_sl, h1] at h2 ⊢
    omega
theorem cat1_args : ∀ {as : List Value} {n i : Nat} {v : Value}, cat1 as → as[i]? = some v → (n + i, v) ∈ lv_args n as ∧ v.category = 1
  | [], _, _, _, _, h => by simp at h
  | w :: r, n, 0, v, hc, h => by
    simp at h
    subst h
    exact ⟨List.mem_cons_self, hc.1⟩
  | w :: r, n, i + 1, v, hc, h => by
    have h1 := cat1_args (n := n + 1) (i := i) hc.2 (by simpa using h)
    refine ⟨List.mem_cons_of_mem _ ?_, h1.2⟩
    rw [if_neg (by rw [hc.1]; decide), show n + (i + 1) = n + 1 + i by omega]
    exact h1.1
theorem EN.cat {as : List Value} {n nL : Nat} (h : cat1 as) (hn : as.length ≤ nL) : EN as (as.map some ++ List.replicate n none) [] nL := by
  refine ⟨by rw [cat1_sl h]; exact hn, fun i v hi => ?_, fun q hq => by cases hq⟩
  have h2 : as[i]? = some v := by
    rw [List.getElem?_append] at hi
    split at hi
    · rw [List.getElem?_map] at hi
      cases ha : as[i]? with
      | none => rw [ha] at hi; cases hi
      | some w => rw [ha] at hi; simp at hi; rw [hi]
    · rw [List.getElem?_replicate] at hi
      split at hi <;> simp at hi
  have h3 := cat1_args (n := 0) h h2
  rw [Nat.zero_add] at h3
  exact h3
theorem Pcc.blind {G : Ctx} {as : List Value} {Γ : List Sh} {σ : Mem} : FrameBlind (Pcc G as Γ σ) := fun a U g mk h => h
section Cts
variable {G : Ctx} {M : Mth} {d mc ms : Nat} {as : List Value} {lv : List (Option Value)} {ll : List (Nat × Int64)} {Γ : List Sh} {σ : Mem} {Q : Option Value → List Sh → Mem → Prop}
theorem Ct.of (hy : plainName (my M).cls = true) (hh : mhh M = some []) (he : EN as lv ll (mL M)) (k : Wq G M (Em G d mc ms Q) mc ms 0 lv ll [] Γ σ) : Ct G M d mc ms as Γ σ Q := by
  intro hok
  refine Met.ofW (cc := mcd M) (maxL := mL M) (ret := mrt M) (ws' := []) hy (by unfold mws; rw [hh]) ?_
  intro p e s m args below meth c s₁ B hml hP
  obtain ⟨rfl, hW, hbig, hout, hV⟩ := hP
  have C : Cx G M p s m meth c := ⟨hok, B.exec, B.bytes, B.returns, B.notSynchronized, hml, findClass_of_methodNamed B.named, (name_of_methodNamed B.named B.method).1, hW, hbig, hout, fun h9 e9 => by
    cases Option.some.inj (hh.symm.trans e9)
    obtain ⟨meth9, c9, h1, h2, -, -, -, -, h7, -⟩ := Cond.code_spec B.named (atoms_spec (ws := mws M) B.pre _ (by unfold mws; rw [hh]; exact List.mem_cons_self))
    cases Option.some.inj (h1.symm.trans B.method)
    cases Option.some.inj (h2.symm.trans (Stand.of_body B).code)
    exact List.eq_nil_iff_forall_not_mem.mpr fun x hx => by
      rw [Array.isEmpty_iff.mp h7] at hx
      cases hx⟩
  rw [lg_entry_eq]
  have hl0 := lv_entry as he.1
  exact k p e s m _ below meth c C s.heap [] 0 0 _ hV va_S.rf (by simp [eC, Em]) (by simp [eM, Em]) ⟨⟨hl0.1, hl0.2.1, fun q hq => by
    rcases List.mem_append.mp hq with h | h
    · exact hl0.2.2 q (he.2.1 _ _ (asc_mem.mp h)).1
    · obtain ⟨q0, h0, e0⟩ := List.mem_map.mp h
      cases e0
      exact hl0.2.2 _ (he.2.2 q0 h0)⟩, fun i v h => (he.2.1 i v h).2⟩
end Cts
/-! returns -/
section Rets
variable {G : Ctx} {M : Mth} {d mc ms bc bs pc : Nat} {lv : List (Option Value)} {ll : List (Nat × Int64)} {Γ : List Sh} {σ : Mem} {Q : Option Value → List Sh → Mem → Prop}
theorem x_ireturn {ty : FieldType} {v : Int32} (hd : decode (mcd M) pc = .ok (.ireturn, 1)) (hr : mrt M = some ty) (hn : narrow ty (.int v) = .int v) (hQ : Q (some (.int v)) Γ σ) : Wq G M (Em G d mc ms Q) bc bs pc lv ll [.int v] Γ σ := by
  intro p e s m args below meth c C H locs cells slots ls hV hS h1 h2 hl
  refine W.widen (k := mc) (n := ms) (by simp [eC, Em] at h1; omega) (by simp [eM, Em] at h2; omega) ?_
  exact W.zret C.exec C.code (C.ret.trans hr) hn (fun t ht hW => ⟨_, Γ, σ, rfl, hQ, by rw [ht]; exact hV, hS.F ht⟩) hS.2.2 hd C.locks
theorem x_lreturn {v : Int64} (hd : decode (mcd M) pc = .ok (.lreturn, 1)) (hr : mrt M = some .long) (hQ : Q (some (.long v)) Γ σ) : Wq G M (Em G d mc ms Q) bc bs pc lv ll [.long v] Γ σ := by
  intro p e s m args below meth c C H locs cells slots ls hV hS h1 h2 hl
  refine W.widen (k := mc) (n := ms) (by simp [eC, Em] at h1; omega) (by simp [eM, Em] at h2; omega) ?_
  exact W.lret C.exec C.code (C.ret.trans hr) (fun t ht hW => ⟨_, Γ, σ, rfl, hQ, by rw [ht]; exact hV, hS.F ht⟩) hS.2.2 hd C.locks
theorem x_return (hd : decode (mcd M) pc = .ok (.return_, 1)) (hr : mrt M = none) (hQ : Q none Γ σ) : Wq G M (Em G d mc ms Q) bc bs pc lv ll [] Γ σ := by
  intro p e s m args below meth c C H locs cells slots ls hV hS h1 h2 hl
  refine W.widen (k := mc) (n := ms) (by simp [eC, Em] at h1; omega) (by simp [eM, Em] at h2; omega) ?_
  exact W.vret C.exec C.code (C.ret.trans hr) (fun t ht hW => ⟨_, Γ, σ, rfl, hQ, by rw [ht]; exact hV, hS.F ht⟩) hS.2.2 hd C.locks
theorem x_areturn0 {rt : FieldType} {v : Value} (hd : decode (mcd M) pc = .ok (.areturn, 1)) (hr : mrt M = some rt) (hrt : (∃ n, rt = .object n) ∨ ∃ t, rt = .array t) (hv : v = .null ∨ ∃ a, v = .ref a) (hQ : Q (some v) Γ σ) : Wq G M (Em G d mc ms Q) bc bs pc lv ll [v] Γ σ := by
  intro p e s m args below meth c C H locs cells slots ls hV hS h1 h2 hl
  refine W.widen (k := mc) (n := ms) (by simp [eC, Em] at h1; omega) (by simp [eM, Em] at h2; omega) ?_
  exact W.aret C.exec C.code (C.ret.trans hr) hrt hv (fun t ht hW => ⟨_, Γ, σ, rfl, hQ, by rw [ht]; exact hV, hS.F ht⟩) hS.2.2 hd C.locks
theorem x_areturn {n : String} {k : Nat} (hd : decode (mcd M) pc = .ok (.areturn, 1)) (hr : mrt M = some (.object n)) (hQ : Q (some (rf G k)) Γ σ) : Wq G M (Em G d mc ms Q) bc bs pc lv ll [rf G k] Γ σ := x_areturn0 hd hr (Or.inl ⟨n, rfl⟩) (Or.inr ⟨_, rfl⟩) hQ
theorem x_areturnN {n : String} (hd : decode (mcd M) pc = .ok (.areturn, 1)) (hr : mrt M = some (.object n)) (hQ : Q (some .null) Γ σ) : Wq G M (Em G d mc ms Q) bc bs pc lv ll [.null] Γ σ := x_areturn0 hd hr (Or.inl ⟨n, rfl⟩) (Or.inl rfl) hQ
end Rets
end
section
/-! calls -/
def gd (w : Cond) : Prop := w ∈ lw_tbl ∧ goodWord w = true
theorem Cx.g {G : Ctx} {M : Mth} {p : Program} {s : State} {m : MethodId} {meth : Method} {c : Code} (C : Cx G M p s m meth c) {args : Array Value} {w : Cond} (h : gd w) : w.before args s = true := C.wd h.1 h.2
theorem Cx.gw {G : Ctx} {M : Mth} {p : Program} {s : State} {m : MethodId} {meth : Method} {c : Code} (C : Cx G M p s m meth c) {w : Cond} (h : gd w) : ∀ (a' : Array Value) (U : State), s.WarmedH U.vm → w.before a' U = true := fun a' U hW => word_at hW (good_of_word h.2) (C.g (args := #[]) h)
/-- a method without handlers, as the tables have it: n parameters -/
def LK (M : Mth) (n : Nat) : Prop := gd (.code (my M) (mcd M) (mL M) (mrt M)) ∧ gd (.initialized (my M).cls) ∧ ((my M).cls ≠ "java/lang/invoke/MethodHandle" ∧ (my M).cls ≠ "java/lang/invoke/VarHandle") ∧ (parseMethodDescriptor (my M).desc).map (fun d => d.parameters.length) = some n ∧ mws M = [.code (my M) (mcd M) (mL M) (mrt M)] ∧ mL M ≤ 21
def RoomE (E : Ev) (d : Nat) : Prop := d + 1 ≤ (eR E).frames ∧ 40 * d + 40 ≤ (eR E).locals ∧ eC E ≤ (eR E).cells ∧ eM E ≤ (eR E).slots
theorem RoomE.m {G : Ctx} {d mc ms : Nat} {Q : Option Value → List Sh → Mem → Prop} : RoomE (Em G (d + 1) mc ms Q) d := by
  refine ⟨?_, ?_, Nat.le_refl _, Nat.le_refl _⟩
  · show d + 1 ≤ d + 1; omega
  · show 40 * d + 40 ≤ 40 * (d + 1); omega
theorem len_of {y : MethodName} {n : Nat} (h : (parseMethodDescriptor y.desc).map (fun d => d.parameters.length) = some n) : ∀ sig, parseMethodDescriptor y.desc = some sig → n = sig.parameters.length := by
  intro sig hs
  rw [hs] at h
  exact (Option.some.inj h).symm
section Calls0
variable {G : Ctx} {M M' : Mth} {E : Ev} {d mc ms bc bs pc idx n k ci : Nat} {lv : List (Option Value)} {ll : List (Nat × Int64)} {st as : List Value} {Γ : List Sh} {σ : Mem}
variable {p : Program} {e : Env} {s : State} {m : MethodId} {args : Array Value} {below : List Frame} {meth : Method} {c : Code} {H : Heap} {locs : List Loc} {cells slots : Nat} {ls : Array Slot}
theorem pre_of (C : Cx G M p s m meth c) (hV : VH G Γ σ H) (hS : va_S (fre G) s.heap H locs) : ∀ U : State, U.heap = H → s.WarmedH U.vm → Pcc G as Γ σ as.toArray U := by
  intro U hU hW
  refine ⟨rfl, State.WarmedH.trans C.warm hW, by rw [hU, hV.1]; exact Nat.le_add_right _ _, fun q hq => ?_, by rw [hU]; exact hV⟩
  rw [hU, hS.2.1 q (Nat.lt_of_lt_of_le hq C.big) (fun h => absurd h (Nat.not_le.mpr hq))]
  exact C.out q hq
theorem rcv_of (C : Cx G M p s m meth c) (hV : VH G Γ σ H) {r : vw_C} (hc : vwCl[ci]? = some r) (hs : Γ[k]? = some (0, ci)) : ∃ cellB : Cell, H[cB G + k]? = some cellB ∧ cellB.vm.isStatics = false ∧ s.vm.findClass r.1 = some cellB.cls := by
  obtain ⟨r', hr, cell, q1, q2, q3, q4⟩ := hV.2 k _ hs
  exact ⟨cell, q1, by rw [q3]; rfl, by rw [q2]; exact (C.K.1 ci _ hc).2.1⟩
theorem go_run {Q' : Option Value → List Sh → Mem → Prop} {a : Array Value} {st0 : List Value} (C : Cx G M p s m meth c) (hS : va_S (fre G) s.heap H locs) (h1 : cells + (bc + mc) ≤ eC E) (h2 : slots + (bs + ms) ≤ eM E) (hl : lvR ls (mL M) lv ll)
    (hr : va_Run p (cL G) e (eR E) s m args below meth c H locs cells slots mc ms (F0 m pc ls st0) st (QC G Q' a) (fre G)) (hk : ∀ r Γ' σ', Q' r Γ' σ' → Wq G M E bc bs (pc + 3) lv ll (r.toList ++ st) Γ' σ') : W p (cL G) e (eR E) s m args below meth c H locs cells slots (eZ E below args s) (F0 m pc ls st0) := by
  intro T hT X
  obtain ⟨v, st₀, t, T', L, h0, X', hL, e1, e2, ⟨r, Γ', σ', hv, hq, hV', hz, hkp⟩, hst⟩ := hr T hT X
  cases hv
  rw [h0] at hz hkp
  have k3 : va_S (fre G) s.heap T'.heap (locs ++ L) := ⟨Nat.le_trans hS.1 (by rw [e1]; exact hz), fun q g1 g2 => by rw [e1, hkp q (Nat.lt_of_lt_of_le g1 hS.1) g2]; exact hS.2.1 q g1 g2, fun q hq2 => by
    rcases List.mem_append.mp hq2 with h | h
    · exact hS.2.2 q h
    · exact hL q h⟩
  obtain ⟨t2, a1, b1⟩ := hk v Γ' σ' hq p e s m args below meth c C T'.heap (locs ++ L) (cells + mc) (slots + ms) ls (by rw [e1]; exact hV') k3 (by omega) (by omega) hl T' rfl X'
  exact ⟨t2, hst t2 a1, b1⟩
theorem cb_of (C : Cx G M p s m meth c) (hL : LK M' n) (hR : RoomE E d) (hl : (Cond.methodLink (my M).cls idx (my M')).before args s = true) : CallB (eR E) s args (my M).cls idx (my M') (mcd M') (mL M') (mrt M') (mws M') (RM d mc ms) mc ms n := by
  obtain ⟨c1, c2, c3, c4, c5, c6⟩ := hL
  refine ⟨rfl, rfl, hR.1, ?_, ?_, by rw [c5]; exact List.mem_cons_self, C.g c1, C.g c2, c3, len_of c4, hl⟩
  · have := hR.2.1
    show 8 + (mL M' + 11) + 40 * d ≤ (eR E).locals
    omega
  · rw [c5]
    intro w hw
    rw [List.mem_singleton.mp hw]
    exact C.gw c1
end Calls0
section Calls1
variable {G : Ctx} {M M' : Mth} {E : Ev} {d mc ms bc bs pc idx n k ci : Nat} {lv : List (Option Value)} {ll : List (Nat × Int64)} {st as : List Value} {Γ : List Sh} {σ : Mem}
/-- a method's call, by the class that its name stands in -/
theorem x_callVg {r : vw_C} (hd : decode (mcd M) pc = .ok (.invokevirtual idx, 3)) (hL : LK M' n) (hl : gd (.methodLink (my M).cls idx (my M'))) (hi : gd (.instanceMethod (my M'))) (hc : vwCl[ci]? = some r) (hsel : gd (.selects r.1 (my M') (my M'))) (hs : Γ[k]? = some (0, ci)) (hn : as.length = n) (hR : RoomE E d) (hcat : (st.map fun v => v.category).sum ≤ 8)
    (hC : Ct G M' d mc ms (rf G k :: as) Γ σ (fun r Γ' σ' => Wq G M E bc bs (pc + 3) lv ll (r.toList ++ st) Γ' σ')) : Wq G M E (bc + mc) (bs + ms) pc lv ll (as.reverse ++ rf G k :: st) Γ σ := by
  intro p e s m args below meth c C H locs cells slots ls hV hS h1 h2 hlv
  refine go_run C hS h1 h2 hlv (va_runV (Ts := []) (n := n) (b := cB G + k) (As := as) (rest := st) ⟨C.exec, C.code, C.maxL, C.own, fun w h => by cases h⟩ (hC C.ok) ⟨cb_of C hL hR (C.g hl), C.g hi, C.g hsel⟩ ⟨Pcc.blind, rcv_of C hV hc hs, pre_of C hV hS⟩ rfl hn hlv.1.1 rfl (lv_room hcat) hd ⟨?_, ?_⟩) (fun _ _ _ h => h)
  · have := hR.2.2.1; omega
  · have := hR.2.2.2; omega
theorem x_callSg (hd : decode (mcd M) pc = .ok (.invokestatic idx, 3)) (hL : LK M' n) (hl : gd (.methodLink (my M).cls idx (my M'))) (hi : gd (.static (my M'))) (hn : as.length = n) (hR : RoomE E d) (hcat : (st.map fun v => v.category).sum ≤ 8)
    (hC : Ct G M' d mc ms as Γ σ (fun r Γ' σ' => Wq G M E bc bs (pc + 3) lv ll (r.toList ++ st) Γ' σ')) : Wq G M E (bc + mc) (bs + ms) pc lv ll (as.reverse ++ st) Γ σ := by
  intro p e s m args below meth c C H locs cells slots ls hV hS h1 h2 hlv
  refine go_run C hS h1 h2 hlv (va_runS (Ts := []) (n := n) (As := as) (rest := st) ⟨C.exec, C.code, C.maxL, C.own, fun w h => by cases h⟩ (hC C.ok) ⟨cb_of C hL hR (C.g hl), C.g hi⟩ ⟨Pcc.blind, pre_of C hV hS⟩ rfl hn hlv.1.1 rfl (lv_room hcat) hd ⟨?_, ?_⟩) (fun _ _ _ h => h)
  · have := hR.2.2.1; omega
  · have := hR.2.2.2; omega
theorem x_callIg (hd : decode (mcd M) pc = .ok (.invokespecial idx, 3)) (hL : LK M' n) (hr : mrt M' = none) (hl : gd (.methodLink (my M).cls idx (my M'))) (hi : gd (.instanceMethod (my M'))) (hnm : (my M').name = "<init>") (hn : as.length = n) (hR : RoomE E d) (hcat : (st.map fun v => v.category).sum ≤ 8)
    (hC : Ct G M' d mc ms (rf G k :: as) Γ σ (fun r Γ' σ' => Wq G M E bc bs (pc + 3) lv ll (r.toList ++ st) Γ' σ')) : Wq G M E (bc + mc) (bs + ms) pc lv ll (as.reverse ++ rf G k :: st) Γ σ := by
  intro p e s m args below meth c C H locs cells slots ls hV hS h1 h2 hlv
  refine go_run C hS h1 h2 hlv (va_runI (Ts := []) (n := n) (b := cB G + k) (As := as) (rest := st) (maxL := mL M') (bytes := mcd M') ⟨C.exec, C.code, C.maxL, C.own, fun w h => by cases h⟩ (hC C.ok) ⟨by rw [← hr]; exact cb_of C hL hR (C.g hl), hnm, C.g hi⟩ ⟨Pcc.blind, pre_of C hV hS⟩ rfl hn hlv.1.1 rfl (lv_room hcat) hd ⟨?_, ?_⟩) (fun _ _ _ h => h)
  · have := hR.2.2.1; omega
  · have := hR.2.2.2; omega
end Calls1
end
section
/-! arrays -/
theorem tysL_at {CA : Nat → ClassId} {t : Nat} (h1 : 1 ≤ t) (h2 : t < NTY) : (tysL CA)[t - 1]? = some (CA t, ctyp t) := by
  have h2 : t < 6 := h2
  unfold tysL
  rw [List.getElem?_map, List.getElem?_range (by omega)]
  show some (CA (t - 1 + 1), ctyp (t - 1 + 1)) = _
  rw [Nat.sub_add_cancel h1]
theorem Cx.arr {G : Ctx} {M : Mth} {p : Program} {s : State} {m : MethodId} {meth : Method} {c : Code} (C : Cx G M p s m meth c) {t : Nat} (h1 : 1 ≤ t) (h2 : t < NTY) : ArrOfT s (cCA G t) (ctyp t) ∧ va_RA s (cCA G t) (ctyp t) := C.K.2 _ _ (tysL_at h1 h2)
theorem cellOK.arr {G : Ctx} {mi : Nat → Int32} {mr : Nat → Option Nat} {ml : Nat → Int64} {k t n : Nat} {H : Heap} (h : cellOK G mi mr ml k (t, n) H) (h1 : 1 ≤ t) (h2 : t < 9) : ∃ f, H[cB G + k]? = some (arrV (cCA G t) n f) := by
  unfold cellOK at h
  split at h
  · next e => cases e; omega
  · next e => cases e; exact ⟨_, h⟩
  · next e => cases e; exact ⟨_, h⟩
  · next e => cases e; exact ⟨_, h⟩
  · next e => cases e; exact ⟨_, h h2⟩
theorem cellOK.q {G : Ctx} {mi : Nat → Int32} {mr : Nat → Option Nat} {ml : Nat → Int64} {k t n : Nat} {H : Heap} (h1 : 4 ≤ t) (h2 : t < 9) : cellOK G mi mr ml k (t, n) H ↔ H[cB G + k]? = some (arrV (cCA G t) n (fun i => ov G (mr i))) := by
  match t, h1 with
  | t + 4, _ => exact ⟨fun h => h h2, fun h _ => h⟩
section Arrays
variable {G : Ctx} {M : Mth} {E : Ev} {bc bs pc k t n : Nat} {lv : List (Option Value)} {ll : List (Nat × Int64)} {st : List Value} {Γ : List Sh} {σ : Mem} {i x : Int32}
theorem x_alen {v : Int32} (hd : decode (mcd M) pc = .ok (.arraylength, 1)) (hs : Γ[k]? = some (t, n)) (ht : 1 ≤ t ∧ t < NTY) (hv : Int32.ofNat n = v) (kk : Wq G M E bc bs (pc + 1) lv ll (.int v :: st) Γ σ) : Wq G M E bc bs pc lv ll (rf G k :: st) Γ σ := by
  intro p e s m args below meth c C H locs cells slots ls hV hS h1 h2 hl
  obtain ⟨f, hc⟩ := (hV.2 k _ hs).arr ht.1 (Nat.lt_of_lt_of_le ht.2 NTY9)
  exact W.alen C.exec C.code hc ((C.arr ht.1 ht.2).1 n f) (by rw [arrV_size]; exact hv) rfl rfl hd (kk p e s m args below meth c C H locs cells slots ls hV hS h1 h2 hl)
theorem x_iald (hd : decode (mcd M) pc = .ok (.iaload, 1)) (hs : Γ[k]? = some (1, n)) (hin : vp_in i n) (kk : Wq G M E bc bs (pc + 1) lv ll (.int (σ.1 k i.toNatClampNeg) :: st) Γ σ) : Wq G M E bc bs pc lv ll (.int i :: rf G k :: st) Γ σ := by
  intro p e s m args below meth c C H locs cells slots ls hV hS h1 h2 hl
  have hlt : i.toNatClampNeg < n := Nat.not_le.mp fun q => hin (Or.inr q)
  have hc : H[cB G + k]? = some (arrV (cCA G 1) n (fun i => .int (σ.1 k i))) := hV.2 k _ hs
  exact W.iald C.exec C.code hc ((C.arr (t := 1) (by decide) (by decide)).1 n _) (fun q => by cases q) (by rw [arrV_size]; exact hin) (arrV_read _ _ hlt) rfl rfl hd (kk p e s m args below meth c C H locs cells slots ls hV hS h1 h2 hl)
theorem x_zald (hd : decode (mcd M) pc = .ok (.baload, 1)) (hs : Γ[k]? = some (2, n)) (hin : vp_in i n) (kk : Wq G M E bc bs (pc + 1) lv ll (.int (σ.1 k i.toNatClampNeg) :: st) Γ σ) : Wq G M E bc bs pc lv ll (.int i :: rf G k :: st) Γ σ := by
  intro p e s m args below meth c C H locs cells slots ls hV hS h1 h2 hl
  have hlt : i.toNatClampNeg < n := Nat.not_le.mp fun q => hin (Or.inr q)
  have hc : H[cB G + k]? = some (arrV (cCA G 2) n (fun i => .int (σ.1 k i))) := hV.2 k _ hs
  exact W.zald C.exec C.code hc ((C.arr (t := 2) (by decide) (by decide)).1 n _) (fun q => by cases q) (by rw [arrV_size]; exact hin) (arrV_read _ _ hlt) rfl rfl hd (kk p e s m args below meth c C H locs cells slots ls hV hS h1 h2 hl)
theorem x_lald (hd : decode (mcd M) pc = .ok (.laload, 1)) (hs : Γ[k]? = some (3, n)) (hin : vp_in i n) (kk : Wq G M E bc bs (pc + 1) lv ll (.long (σ.2.2 k i.toNatClampNeg) :: st) Γ σ) : Wq G M E bc bs pc lv ll (.int i :: rf G k :: st) Γ σ := by
  intro p e s m args below meth c C H locs cells slots ls hV hS h1 h2 hl
  have hlt : i.toNatClampNeg < n := Nat.not_le.mp fun q => hin (Or.inr q)
  have hc : H[cB G + k]? = some (arrV (cCA G 3) n (fun i => .long (σ.2.2 k i))) := hV.2 k _ hs
  exact W.lald C.exec C.code hc ((C.arr (t := 3) (by decide) (by decide)).1 n _) (fun q => by cases q) (by rw [arrV_size]; exact hin) (arrV_read _ _ hlt) rfl rfl hd (kk p e s m args below meth c C H locs cells slots ls hV hS h1 h2 hl)
theorem x_aald0 (hd : decode (mcd M) pc = .ok (.aaload, 1)) (hs : Γ[k]? = some (t, n)) (ht : 4 ≤ t ∧ t < NTY) (hin : vp_in i n) (kk : Wq G M E bc bs (pc + 1) lv ll (ov G (σ.2.1 k i.toNatClampNeg) :: st) Γ σ) : Wq G M E bc bs pc lv ll (.int i :: rf G k :: st) Γ σ := by
  intro p e s m args below meth c C H locs cells slots ls hV hS h1 h2 hl
  have hlt : i.toNatClampNeg < n := Nat.not_le.mp fun q => hin (Or.inr q)
  have hc := (cellOK.q ht.1 (Nat.lt_of_lt_of_le ht.2 NTY9)).mp (hV.2 k _ hs)
  exact W.aald C.exec C.code hc ((C.arr (by omega) ht.2).1 n _) (ctyp_ref ht.1 ht.2) (fun q => by cases q) (by rw [arrV_size]; exact hin) (arrV_read _ _ hlt) rfl rfl hd (kk p e s m args below meth c C H locs cells slots ls hV hS h1 h2 hl)
theorem x_aald (hd : decode (mcd M) pc = .ok (.aaload, 1)) (hs : Γ[k]? = some (t, n)) (ht : 4 ≤ t ∧ t < NTY) (hin : vp_in i n) {k2 : Nat} (hv : σ.2.1 k i.toNatClampNeg = some k2) (kk : Wq G M E bc bs (pc + 1) lv ll (rf G k2 :: st) Γ σ) : Wq G M E bc bs pc lv ll (.int i :: rf G k :: st) Γ σ := x_aald0 hd hs ht hin (by rw [hv]; exact kk)
theorem x_aaldO (hd : decode (mcd M) pc = .ok (.aaload, 1)) (hs : Γ[k]? = some (t, n)) (ht : 4 ≤ t ∧ t < NTY) (hin : vp_in i n) (kn : σ.2.1 k i.toNatClampNeg = none → Wq G M E bc bs (pc + 1) lv ll (.null :: st) Γ σ) (ks : ∀ k2, σ.2.1 k i.toNatClampNeg = some k2 → Wq G M E bc bs (pc + 1) lv ll (rf G k2 :: st) Γ σ) : Wq G M E bc bs pc lv ll (.int i :: rf G k :: st) Γ σ := x_aald0 hd hs ht hin (by
  cases h : σ.2.1 k i.toNatClampNeg with
  | none => exact kn h
  | some k2 => exact ks k2 h)
theorem x_iast (hd : decode (mcd M) pc = .ok (.iastore, 1)) (hs : Γ[k]? = some (1, n)) (hin : vp_in i n) (kk : Wq G M E bc bs (pc + 1) lv ll st Γ (wI σ k i.toNatClampNeg x)) : Wq G M E bc bs pc lv ll (.int x :: .int i :: rf G k :: st) Γ σ := by
  intro p e s m args below meth c C H locs cells slots ls hV hS h1 h2 hl
  have hc : H[cB G + k]? = some (arrV (cCA G 1) n (fun i => .int (σ.1 k i))) := hV.2 k _ hs
  refine W.iast C.exec C.code hc ((C.arr (t := 1) (by decide) (by decide)).1 n _) (fun q => by cases q) (by rw [arrV_size]; exact hin) rfl rfl hd fun H1 e1 z oq => ?_
  refine kk p e s m args below meth c C H1 _ cells slots ls (hV.upd hs (fun a ha => funext fun q => by simp [wI, ha]) (fun _ _ => rfl) (fun _ _ => rfl) z oq ?_) (hS.put z oq (Nat.le_add_right _ _)) h1 h2 hl
  show H1[cB G + k]? = some (arrV (cCA G 1) n (fun q => .int ((wI σ k i.toNatClampNeg x).1 k q)))
  rw [e1, arrV_store]
  congr 2
  funext q
  by_cases hq : q = i.toNatClampNeg <;> simp [updV, wI, hq]
theorem x_zast (hd : decode (mcd M) pc = .ok (.bastore, 1)) (hs : Γ[k]? = some (2, n)) (hin : vp_in i n) (hx : vp_nar .boolean x = x) (kk : Wq G M E bc bs (pc + 1) lv ll st Γ (wI σ k i.toNatClampNeg x)) : Wq G M E bc bs pc lv ll (.int x :: .int i :: rf G k :: st) Γ σ := by
  intro p e s m args below meth c C H locs cells slots ls hV hS h1 h2 hl
  have hc : H[cB G + k]? = some (arrV (cCA G 2) n (fun i => .int (σ.1 k i))) := hV.2 k _ hs
  refine W.zast C.exec C.code hc ((C.arr (t := 2) (by decide) (by decide)).1 n _) (fun q => by cases q) (by rw [arrV_size]; exact hin) rfl rfl hd fun H1 e1 z oq => ?_
  refine kk p e s m args below meth c C H1 _ cells slots ls (hV.upd hs (fun a ha => funext fun q => by simp [wI, ha]) (fun _ _ => rfl) (fun _ _ => rfl) z oq ?_) (hS.put z oq (Nat.le_add_right _ _)) h1 h2 hl
  show H1[cB G + k]? = some (arrV (cCA G 2) n (fun q => .int ((wI σ k i.toNatClampNeg x).1 k q)))
  rw [e1, arrV_store]
  congr 2
  funext q
  by_cases hq : q = i.toNatClampNeg
  · simp [updV, wI, hq]
    exact congrArg Value.int hx
  · simp [updV, wI, hq]
theorem x_last {y : Int64} (hd : decode (mcd M) pc = .ok (.lastore, 1)) (hs : Γ[k]? = some (3, n)) (hin : vp_in i n) (kk : Wq G M E bc bs (pc + 1) lv ll st Γ (wL σ k i.toNatClampNeg y)) : Wq G M E bc bs pc lv ll (.long y :: .int i :: rf G k :: st) Γ σ := by
  intro p e s m args below meth c C H locs cells slots ls hV hS h1 h2 hl
  have hc : H[cB G + k]? = some (arrV (cCA G 3) n (fun i => .long (σ.2.2 k i))) := hV.2 k _ hs
  refine W.last C.exec C.code hc ((C.arr (t := 3) (by decide) (by decide)).1 n _) (fun q => by cases q) (by rw [arrV_size]; exact hin) rfl rfl hd fun H1 e1 z oq => ?_
  refine kk p e s m args below meth c C H1 _ cells slots ls (hV.upd hs (fun _ _ => rfl) (fun _ _ => rfl) (fun a ha => funext fun q => by simp [wL, ha]) z oq ?_) (hS.put z oq (Nat.le_add_right _ _)) h1 h2 hl
  show H1[cB G + k]? = some (arrV (cCA G 3) n (fun q => .long ((wL σ k i.toNatClampNeg y).2.2 k q)))
  rw [e1, arrV_store]
  congr 2
  funext q
  by_cases hq : q = i.toNatClampNeg <;> simp [updV, wL, hq]
theorem x_aast {k2 ci : Nat} {r : vw_C} (hd : decode (mcd M) pc = .ok (.aastore, 1)) (hs : Γ[k]? = some (t, n)) (ht : 4 ≤ t ∧ t < NTY) (hs2 : Γ[k2]? = some (0, ci)) (hc2 : vwCl[ci]? = some r) (hct : ctyp t = .object r.1) (hin : vp_in i n) (kk : Wq G M E bc bs (pc + 1) lv ll st Γ (wR σ k i.toNatClampNeg (some k2))) : Wq G M E bc bs pc lv ll (rf G k2 :: .int i :: rf G k :: st) Γ σ := by
  intro p e s m args below meth c C H locs cells slots ls hV hS h1 h2 hl
  have hlt : i.toNatClampNeg < n := Nat.not_le.mp fun q => hin (Or.inr q)
  have h0 : ¬ i < 0 := fun q => hin (Or.inl q)
  have ht9 : t < 9 := Nat.lt_of_lt_of_le ht.2 NTY9
  have hc := (cellOK.q ht.1 ht9).mp (hV.2 k _ hs)
  obtain ⟨r', hr', cellV, g1, g2, g3, -⟩ := hV.2 k2 _ hs2
  have hcls := (C.K.1 ci r hc2).2
  have hra := (C.arr (t := t) (by omega) ht.2).2
  rw [hct] at hra
  obtain ⟨kA, comp, k1, k3, k4, -⟩ := hra
  have hcomp : comp = (cD G).1 ci := Option.some.inj (k4.symm.trans hcls.1)
  subst hcomp
  obtain ⟨kC, hkC, -⟩ := hcls.2
  refine W.aast C.exec C.code hc (fun q h => by cases h) (fun h => by cases h) k1 k3 rfl hkC ⟨h0, by rw [arrV_size]; exact hlt⟩ g1 (fun q h => by rw [g3] at h; cases h) (by rw [g2]; exact hkC) (by rw [g2]; exact va_assign hcls) rfl rfl hd fun H1 e1 z oq => ?_
  refine kk p e s m args below meth c C H1 _ cells slots ls (hV.upd hs (fun _ _ => rfl) (fun a ha => funext fun q => by simp [wR, ha]) (fun _ _ => rfl) z oq ((cellOK.q ht.1 ht9).mpr ?_)) (hS.put z oq (Nat.le_add_right _ _)) h1 h2 hl
  rw [e1, arrV_store]
  congr 2
  funext q
  by_cases hq : q = i.toNatClampNeg
  · simp [updV, wR, hq]
    rfl
  · simp [updV, wR, hq]
end Arrays
/-! making cells -/
def zr (σ : Mem) (k : Nat) : Mem := (fun a i => if a = k then 0 else σ.1 a i, fun a i => if a = k then none else σ.2.1 a i, fun a i => if a = k then 0 else σ.2.2 a i)
theorem VH.push {G : Ctx} {Γ : List Sh} {σ : Mem} {H H1 : Heap} {sh : Sh} (hV : VH G Γ σ H) (hz : H1.size = H.size + 1) (ho : ∀ q : Nat, q < H.size → H1[q]? = H[q]?) (hc : cellOK G (fun _ => 0) (fun _ => none) (fun _ => 0) Γ.length sh H1) : VH G (Γ ++ [sh]) (zr σ Γ.length) H1 := by
  refine ⟨by rw [hz, hV.1, List.length_append]; rfl, fun k s hs => ?_⟩
  by_cases e : k = Γ.length
  · subst e
    rw [List.getElem?_append_right (Nat.le_refl _), Nat.sub_self] at hs
    cases hs
    simpa [zr] using hc
  · have hl : k < Γ.length := by
      have := (List.getElem?_eq_some_iff.mp hs).1
      rw [List.length_append] at this
      simp at this
      omega
    rw [List.getElem?_append_left hl] at hs
    have h := (hV.2 k s hs).kept (H1 := H1) (ho _ (by rw [hV.1]; omega))
    simpa [zr, e] using h
theorem va_S.grow {A : Nat → Prop} {H0 H H1 : Heap} {locs : List Loc} (h : va_S A H0 H locs) (z : H1.size = H.size + 1) (o : ∀ q : Nat, q < H.size → H1[q]? = H[q]?) : va_S A H0 H1 locs :=
  ⟨Nat.le_trans h.1 (by omega), fun q h1 h2 => (o q (Nat.lt_of_lt_of_le h1 h.1)).trans (h.2.1 q h1 h2), h.2.2⟩
def EvOK (E : Ev) : Prop := eC E ≤ (eR E).cells ∧ eM E ≤ (eR E).slots
theorem EvOK.m {G : Ctx} {d mc ms : Nat} {Q : Option Value → List Sh → Mem → Prop} : EvOK (Em G d mc ms Q) := ⟨Nat.le_refl _, Nat.le_refl _⟩
section News
variable {G : Ctx} {M : Mth} {E : Ev} {bc bs pc idx ci N t : Nat} {lv : List (Option Value)} {ll : List (Nat × Int64)} {st : List Value} {Γ : List Sh} {σ : Mem}
theorem x_new {Cn : String} {T : u_T} (hd : decode (mcd M) pc = .ok (.new idx, 3)) (hK : KC ci Cn T N) (hl : gd (.classLink (my M).cls idx Cn)) (hi : gd (.instantiable Cn N)) (hn : gd (.initialized Cn)) (hdf : ∀ j, j < N → defaultValue (tyOf ci j) = fval G (fun _ => 0) (fun _ => none) (fun _ => 0) j (tyOf ci j)) (hE : EvOK E)
    (kk : Wq G M E bc bs (pc + 3) lv ll (rf G Γ.length :: st) (Γ ++ [(0, ci)]) (zr σ Γ.length)) : Wq G M E (bc + 1) (bs + N) pc lv ll st Γ σ := by
  intro p e s m args below meth c C H locs cells slots ls hV hS h1 h2 hlv
  obtain ⟨hc, hw, hty, hnm⟩ := hK
  have hts : ∀ w ∈ u_ws Cn T N, w.before args s = true := fun w h => C.wd (hw w h).1 (hw w h).2
  have hKn := C.K.1 ci _ hc
  refine W.newcK C.exec C.code C.own (C.g hl) (C.g hi) (C.g hn) rfl hd (by have := hE.1; omega) (by have := hE.2; omega) hKn.2.1 rfl fun H1 kC hkC e1 z1 o1 => ?_
  have e2 := u_born (tyOf ci) hts (fun _ h => h) hKn hkC e1 hty
  rw [hV.1] at e2
  have k2 := kk p e s m args below meth c C H1 locs (cells + 1) (slots + N) ls (hV.push z1 o1 ⟨_, hc, e2.to hdf⟩) (hS.grow z1 o1) (by omega) (by omega) hlv
  unfold rf at k2
  rw [← hV.1] at k2
  exact k2
theorem x_newa {atype : ArrayType} {n : Int32} (hd : decode (mcd M) pc = .ok (.newarray atype, 2)) (hty : newarray.typeOf atype = ctyp t) (ht : 1 ≤ t ∧ t < 4) (hg : gd (.arrayClass (newarray.typeOf atype))) (hn : ¬ n < 0) (hN : n.toNatClampNeg = N) (hb : N * componentBytes (newarray.typeOf atype) ≤ 536870912) (hE : EvOK E)
    (kk : Wq G M E bc bs (pc + 2) lv ll (rf G Γ.length :: st) (Γ ++ [(t, N)]) (zr σ Γ.length)) : Wq G M E (bc + 1) (bs + N) pc lv ll (.int n :: st) Γ σ := by
  intro p e s m args below meth c C H locs cells slots ls hV hS h1 h2 hlv
  refine va_newaK C.exec C.code (C.g hg) rfl hd rfl hn hN hb (by have := hE.1; omega) (by have := hE.2; omega) rfl fun H1 cA e1 z1 o1 hAr hNm => ?_
  have hcA : cA = cCA G t := by
    have h9 := (C.arr ht.1 (Nat.lt_of_lt_of_le ht.2 NTY4)).2
    rw [← hty] at h9
    have h8 : s.vm.findClass ("[" ++ (newarray.typeOf atype).toString) = some (cCA G t) := by cases atype <;> exact h9
    exact Option.some.inj (hNm.symm.trans h8)
  subst hcA
  rw [hV.1] at e1
  have k2 := kk p e s m args below meth c C H1 locs (cells + 1) (slots + N) ls (hV.push z1 o1 (by
    rw [hty] at e1
    match t, ht with
    | 1, _ => exact e1
    | 2, _ => exact e1
    | 3, _ => exact e1)) (hS.grow z1 o1) (by omega) (by omega) hlv
  unfold rf at k2
  rw [← hV.1] at k2
  exact k2
theorem x_anew {Cn : String} {n : Int32} (hd : decode (mcd M) pc = .ok (.anewarray idx, 3)) (hl : gd (.classLink (my M).cls idx Cn)) (hct : ctyp t = .object Cn) (ht : 4 ≤ t ∧ t < NTY) (ho : Cond.arrayOver (.object Cn) ∈ lw_tbl) (hn : ¬ n < 0) (hN : n.toNatClampNeg = N) (hb : N * 4 ≤ 536870912) (hE : EvOK E)
    (kk : Wq G M E bc bs (pc + 3) lv ll (rf G Γ.length :: st) (Γ ++ [(t, N)]) (zr σ Γ.length)) : Wq G M E (bc + 1) (bs + N) pc lv ll (.int n :: st) Γ σ := by
  intro p e s m args below meth c C H locs cells slots ls hV hS h1 h2 hlv
  subst hN
  refine W.anew C.exec C.code C.own (C.g hl) (va_AO.use (va_AO.moved C.warm.alike (va_AO.of (C.ok.1 _ ho)))) rfl hd rfl hn hb (by have := hE.1; omega) (by have := hE.2; omega) fun cA kA comp f1 f2 f3 f4 => ?_
  have hcA : cA = cCA G t := by
    have h9 := (C.arr (t := t) (by omega) ht.2).2
    rw [hct] at h9
    obtain ⟨_, _, -, -, -, h8⟩ := h9
    exact Option.some.inj (f1.symm.trans h8)
  subst hcA
  have z1 : (H.push ({ cls := cCA G t, slots := Array.replicate n.toNatClampNeg .null, vm := .none } : Cell)).size = H.size + 1 := by simp
  have o1 : ∀ q : Nat, q < H.size → (H.push ({ cls := cCA G t, slots := Array.replicate n.toNatClampNeg .null, vm := .none } : Cell))[q]? = H[q]? := fun q hq => by rw [Array.getElem?_push, if_neg (Nat.ne_of_lt hq)]
  have k2 := kk p e s m args below meth c C _ locs (cells + 1) (slots + n.toNatClampNeg) ls (hV.push z1 o1 ((cellOK.q ht.1 (Nat.lt_of_lt_of_le ht.2 NTY9)).mpr (by
    rw [← hV.1, arrV_new]
    simp
    rfl))) (hS.grow z1 o1) (by omega) (by omega) hlv
  unfold rf at k2
  rw [← hV.1] at k2
  exact k2
end News
end
section
/-! calls of nest mates' private methods, inherited and overriding methods -/
section Calls2
variable {G : Ctx} {M M' : Mth} {E : Ev} {d mc ms bc bs pc idx n k ci : Nat} {lv : List (Option Value)} {ll : List (Nat × Int64)} {st as : List Value} {Γ : List Sh} {σ : Mem}
theorem cn_of {p : Program} {s : State} {m : MethodId} {args : Array Value} {meth : Method} {c : Code} {host : String} (C : Cx G M p s m meth c) (hL : LK M' n) (hR : RoomE E d) (hl : Cond.methodLinkNest (my M).cls idx (my M') host ∈ lw_tbl) : va_CN (eR E) s args (my M).cls idx (my M') host (mcd M') (mL M') (mrt M') (mws M') (RM d mc ms) mc ms n := by
  obtain ⟨c1, c2, c3, c4, c5, c6⟩ := hL
  refine ⟨⟨rfl, rfl, hR.1, ?_, ?_, by rw [c5]; exact List.mem_cons_self⟩, C.g c1, C.g c2, c3, len_of c4, va_Nw.use rfl (va_Nw.warmM C.warm (va_Nw.of rfl (C.ok.1 _ hl)))⟩
  · have := hR.2.1
    show 8 + (mL M' + 11) + 40 * d ≤ (eR E).locals
    omega
  · rw [c5]
    intro w hw
    rw [List.mem_singleton.mp hw]
    exact C.gw c1
theorem x_callVNg {r : vw_C} {host : String} (hd : decode (mcd M) pc = .ok (.invokevirtual idx, 3)) (hL : LK M' n) (hl : Cond.methodLinkNest (my M).cls idx (my M') host ∈ lw_tbl) (hi : gd (.instanceMethod (my M'))) (hc : vwCl[ci]? = some r) (hsel : gd (.selects r.1 (my M') (my M'))) (hs : Γ[k]? = some (0, ci)) (hn : as.length = n) (hR : RoomE E d) (hcat : (st.map fun v => v.category).sum ≤ 8)
    (hC : Ct G M' d mc ms (rf G k :: as) Γ σ (fun r Γ' σ' => Wq G M E bc bs (pc + 3) lv ll (r.toList ++ st) Γ' σ')) : Wq G M E (bc + mc) (bs + ms) pc lv ll (as.reverse ++ rf G k :: st) Γ σ := by
  intro p e s m args below meth c C H locs cells slots ls hV hS h1 h2 hlv
  refine go_run C hS h1 h2 hlv (va_runVN (Ts := []) (n := n) (b := cB G + k) (As := as) (rest := st) ⟨C.exec, C.code, C.maxL, C.own, fun w h => by cases h⟩ (hC C.ok) ⟨cn_of C hL hR hl, C.g hi, C.g hsel⟩ ⟨Pcc.blind, rcv_of C hV hc hs, pre_of C hV hS⟩ rfl hn hlv.1.1 rfl (lv_room hcat) hd ⟨?_, ?_⟩) (fun _ _ _ h => h)
  · have := hR.2.2.1; omega
  · have := hR.2.2.2; omega
theorem x_callSNg {host : String} (hd : decode (mcd M) pc = .ok (.invokestatic idx, 3)) (hL : LK M' n) (hl : Cond.methodLinkNest (my M).cls idx (my M') host ∈ lw_tbl) (hi : gd (.static (my M'))) (hn : as.length = n) (hR : RoomE E d) (hcat : (st.map fun v => v.category).sum ≤ 8)
    (hC : Ct G M' d mc ms as Γ σ (fun r Γ' σ' => Wq G M E bc bs (pc + 3) lv ll (r.toList ++ st) Γ' σ')) : Wq G M E (bc + mc) (bs + ms) pc lv ll (as.reverse ++ st) Γ σ := by
  intro p e s m args below meth c C H locs cells slots ls hV hS h1 h2 hlv
  refine go_run C hS h1 h2 hlv (va_runSN (Ts := []) (n := n) (As := as) (rest := st) ⟨C.exec, C.code, C.maxL, C.own, fun w h => by cases h⟩ (hC C.ok) ⟨cn_of C hL hR hl, C.g hi, trivial⟩ ⟨Pcc.blind, pre_of C hV hS⟩ rfl hn hlv.1.1 rfl (lv_room hcat) hd ⟨?_, ?_⟩) (fun _ _ _ h => h)
  · have := hR.2.2.1; omega
  · have := hR.2.2.2; omega
/-- a call that names x and lands in M' for the receiver's class: inherited, or of an abstract or overridden method -/
theorem x_callUg {r : vw_C} {x : MethodName} {owner : String} (hd : decode (mcd M) pc = .ok (.invokevirtual idx, 3)) (hL : LK M' n) (hl : gd (.methodLink (my M).cls idx x)) (hsm : gd (.sameMethod x.cls owner x.name x.desc)) (ho : owner ≠ "java/lang/invoke/MethodHandle" ∧ owner ≠ "java/lang/invoke/VarHandle") (hxn : (parseMethodDescriptor x.desc).map (fun d => d.parameters.length) = some n)
    (hdc : Cond.declares ⟨owner, x.name, x.desc⟩ ∈ lw_tbl ∨ ∃ b0 m0 r0, gd (.instanceMethod ⟨owner, x.name, x.desc⟩) ∧ gd (.code ⟨owner, x.name, x.desc⟩ b0 m0 r0)) (hi : gd (.instanceMethod (my M'))) (hc : vwCl[ci]? = some r) (hsel : gd (.selects r.1 x (my M'))) (hs : Γ[k]? = some (0, ci)) (hn : as.length = n) (hR : RoomE E d) (hcat : (st.map fun v => v.category).sum ≤ 8)
    (hC : Ct G M' d mc ms (rf G k :: as) Γ σ (fun r Γ' σ' => Wq G M E bc bs (pc + 3) lv ll (r.toList ++ st) Γ' σ')) : Wq G M E (bc + mc) (bs + ms) pc lv ll (as.reverse ++ rf G k :: st) Γ σ := by
  intro p e s m args below meth c C H locs cells slots ls hV hS h1 h2 hlv
  obtain ⟨c1, c2, c3, c4, c5, c6⟩ := hL
  have hdc' : va_Decl s ⟨owner, x.name, x.desc⟩ := by
    rcases hdc with h | ⟨b0, m0, r0, g1, g2⟩
    · exact va_Decl.abs (va_Nw.warmD C.warm (va_Nw.of rfl (C.ok.1 _ h)))
    · exact va_Decl.of (args := #[]) (C.g g1) (C.g g2)
  have cw : va_CU (eR E) s args (my M).cls r.1 owner idx x (my M') (mcd M') (mL M') (mrt M') (mws M') (RM d mc ms) mc ms n := by
    refine ⟨⟨rfl, rfl, hR.1, ?_, ?_, by rw [c5]; exact List.mem_cons_self⟩, C.g c1, C.g c2, ho, len_of hxn, C.g hl, C.g hsm, hdc', C.g hsel, C.g hi⟩
    · have := hR.2.1
      show 8 + (mL M' + 11) + 40 * d ≤ (eR E).locals
      omega
    · rw [c5]
      intro w hw
      rw [List.mem_singleton.mp hw]
      exact C.gw c1
  refine go_run C hS h1 h2 hlv (va_runU (Ts := []) (n := n) (b := cB G + k) (As := as) (rest := st) ⟨C.exec, C.code, C.maxL, C.own, fun w h => by cases h⟩ (hC C.ok) cw ⟨Pcc.blind, rcv_of C hV hc hs, pre_of C hV hS⟩ rfl hn hlv.1.1 rfl (lv_room hcat) hd ⟨?_, ?_⟩) (fun _ _ _ h => h)
  · have := hR.2.2.1; omega
  · have := hR.2.2.2; omega
end Calls2
/-! Object.<init>, Math, System.arraycopy -/
section Lib0
variable {G : Ctx} {M : Mth} {E : Ev} {bc bs pc idx k k2 n n2 : Nat} {lv : List (Option Value)} {ll : List (Nat × Int64)} {st : List Value} {Γ : List Sh} {σ : Mem} {x y : Int32}
def RoomL (E : Ev) : Prop := 1 ≤ (eR E).frames ∧ 40 ≤ (eR E).locals ∧ eC E ≤ (eR E).cells ∧ eM E ≤ (eR E).slots
theorem RoomL.m {d mc ms : Nat} {Q : Option Value → List Sh → Mem → Prop} : RoomL (Em G (d + 1) mc ms Q) := by
  refine ⟨?_, ?_, Nat.le_refl _, Nat.le_refl _⟩
  · show 1 ≤ d + 1; omega
  · show 40 ≤ 40 * (d + 1); omega
theorem x_objInit (hd : decode (mcd M) pc = .ok (.invokespecial idx, 3)) (hl : gd (.methodLink (my M).cls idx Lib.objectInit)) (hi : gd (.instanceMethod Lib.objectInit)) (hc : gd (.code Lib.objectInit ⟨#[0xb1]⟩ 1 none)) (hR : RoomL E) (hcat : (st.map fun v => v.category).sum ≤ 8) (kk : Wq G M E bc bs (pc + 3) lv ll st Γ σ) : Wq G M E bc bs pc lv ll (rf G k :: st) Γ σ := by
  intro p e s m args below meth c C H locs cells slots ls hV hS h1 h2 hlv
  have hr := hR.1
  have hr2 := hR.2.1
  exact W.objInit C.exec C.code C.own (C.g hl) (C.g hi) (C.g hc) rfl (hlv.1.1.trans C.maxL.symm) rfl hd (by omega) (by show 2 * 0 + _ + 12 ≤ _; omega) (kk p e s m args below meth c C H locs cells slots ls hV hS h1 h2 hlv)
theorem x_mmax (hd : decode (mcd M) pc = .ok (.invokestatic idx, 3)) (hl : gd (.methodLink (my M).cls idx Lib.Math.max.name)) (hs : gd (.static Lib.Math.max.name)) (hi : gd (.initialized "java/lang/Math")) (hc : gd (.code Lib.Math.max.name Lib.Math.max.code 2 (some .int))) (hR : RoomL E) (hcat : (st.map fun v => v.category).sum ≤ 8) (kk : Wq G M E bc bs (pc + 3) lv ll (.int (if x < y then y else x) :: st) Γ σ) : Wq G M E bc bs pc lv ll (.int y :: .int x :: st) Γ σ := by
  intro p e s m args below meth c C H locs cells slots ls hV hS h1 h2 hlv
  obtain ⟨r1, r2, r3, r4⟩ := hR
  exact va_mmax C.exec C.code (C.maxL.trans hlv.1.1.symm) C.own (C.g hl) (C.g hs) (C.g hi) (C.g hc) (by omega) (by omega) (by omega) (by omega) hd (kk p e s m args below meth c C H locs cells slots ls hV hS h1 h2 hlv)
theorem x_mmin (hd : decode (mcd M) pc = .ok (.invokestatic idx, 3)) (hl : gd (.methodLink (my M).cls idx Lib.Math.min.name)) (hs : gd (.static Lib.Math.min.name)) (hi : gd (.initialized "java/lang/Math")) (hc : gd (.code Lib.Math.min.name Lib.Math.min.code 2 (some .int))) (hR : RoomL E) (hcat : (st.map fun v => v.category).sum ≤ 8) (kk : Wq G M E bc bs (pc + 3) lv ll (.int (if y < x then y else x) :: st) Γ σ) : Wq G M E bc bs pc lv ll (.int y :: .int x :: st) Γ σ := by
  intro p e s m args below meth c C H locs cells slots ls hV hS h1 h2 hlv
  obtain ⟨r1, r2, r3, r4⟩ := hR
  exact va_mmin C.exec C.code (C.maxL.trans hlv.1.1.symm) C.own (C.g hl) (C.g hs) (C.g hi) (C.g hc) (by omega) (by omega) (by omega) (by omega) hd (kk p e s m args below meth c C H locs cells slots ls hV hS h1 h2 hlv)
def wC (σ : Mem) (a : Nat) (f : Nat → Int32) : Mem := (fun k i => if k = a then f i else σ.1 k i, σ.2)
theorem x_copyi {sp dp z : Int32} (hd : decode (mcd M) pc = .ok (.invokestatic idx, 3)) (hl : gd (.methodLink (my M).cls idx arraycopyName)) (hnat : gd (.native arraycopyName)) (hstt : gd (.static arraycopyName)) (hi : gd (.initialized "java/lang/System")) (hs : Γ[k]? = some (1, n)) (hs2 : Γ[k2]? = some (1, n2)) (g1 : ¬ sp < 0) (g2 : ¬ dp < 0) (g3 : ¬ z < 0) (g4 : sp.toNatClampNeg + z.toNatClampNeg ≤ n) (g5 : dp.toNatClampNeg + z.toNatClampNeg ≤ n2) (hR : RoomL E) (hcat : (st.map fun v => v.category).sum ≤ 8)
    (kk : Wq G M E bc bs (pc + 3) lv ll st Γ (wC σ k2 (va_cpy (σ.1 k) (σ.1 k2) sp.toNatClampNeg dp.toNatClampNeg z.toNatClampNeg))) : Wq G M E bc bs pc lv ll (.int z :: .int dp :: rf G k2 :: .int sp :: rf G k :: st) Γ σ := by
  intro p e s m args below meth c C H locs cells slots ls hV hS h1 h2 hlv
  obtain ⟨r1, r2, r3, r4⟩ := hR
  have nn : ∀ z : Int32, ¬ z < 0 → z.toInt = (z.toNatClampNeg : Int) := by
    intro z hz
    have hz0 : (0 : Int) ≤ z.toInt := by
      have := Int32.not_lt.mp hz
      simpa using Int32.le_iff_toInt_le.mp this
    show z.toInt = ((z.toInt.toNat : Nat) : Int)
    omega
  intro T hT X
  have hc0 : H[cB G + k]? = some (arrV (cCA G 1) n (fun i => .int (σ.1 k i))) := hV.2 k _ hs
  have hc1 : H[cB G + k2]? = some (arrV (cCA G 1) n2 (fun i => .int (σ.1 k2 i))) := hV.2 k2 _ hs2
  have hA := (C.arr (t := 1) (by decide) (by decide)).1
  obtain ⟨-, k0, hk0, cm0, hkk0⟩ := hA n (fun j => .int (σ.1 k j))
  obtain ⟨-, k1, hk1, cm1, hkk1⟩ := hA n2 (fun j => .int (σ.1 k2 j))
  have hnw : nativeFrameWords "java/lang/System" "arraycopy" 5 ≤ 21 := by decide +kernel
  obtain ⟨vm', X', step⟩ := X.arraycopy C.exec C.own (C.g hl) (C.g hnat) (C.g hstt) (C.g hi) (src := cB G + k) (dst := cB G + k2) (cs := arrV (cCA G 1) n (fun i => .int (σ.1 k i))) (cd := arrV (cCA G 1) n2 (fun i => .int (σ.1 k2 i))) (srcPos := sp) (destPos := dp) (n := z) (by rw [hT]; exact hc0) (by rw [hT]; exact hc1)
    (fun _ h => by cases h) (fun _ h => by cases h) (fun h => by cases h) (fun h => by cases h) hk0 hk1 hkk0 hkk1 (by simp [ctyp, refKind]) g1 g2 g3
    (by rw [nn sp g1, nn z g3, arrV_size]; omega)
    (by rw [nn dp g2, nn z g3, arrV_size]; omega)
    (fun vm₁ _ i hi => by
      have e : (arrV (cCA G 1) n (fun i => Value.int (σ.1 k i))).slots.getD (sp.toNatClampNeg + i) .null = .int (σ.1 k (sp.toNatClampNeg + i)) := by
        rw [Array.getD_eq_getD_getElem?, arrV_read _ _ (by omega)]
        rfl
      refine ⟨?_, ?_⟩
      · rw [e]; rfl
      · rw [e]; exact trivial)
    (g := F0 m pc ls (.int z :: .int dp :: rf G k2 :: .int sp :: rf G k :: st)) rfl (by rw [C.maxL]; exact hlv.1.1) (rest := st) rfl (by rw [C.code]; exact hd) (by omega) (by show 2 * 0 + _ + _ ≤ _; omega)
  have e1 : copied (arrV (cCA G 1) n (fun i => .int (σ.1 k i))) (arrV (cCA G 1) n2 (fun i => .int (σ.1 k2 i))) sp dp z = arrV (cCA G 1) n2 (fun i => .int (va_cpy (σ.1 k) (σ.1 k2) sp.toNatClampNeg dp.toNatClampNeg z.toNatClampNeg i)) := va_copied (fun z => .int z) _ _ (σ.1 k) (σ.1 k2) g4
  rw [e1] at X' step
  have hlt : cB G + k2 < H.size := (Array.getElem?_eq_some_iff.mp hc1).1
  have oq : ∀ q : Nat, q ≠ cB G + k2 → (H.setIfInBounds (cB G + k2) (arrV (cCA G 1) n2 (fun i => .int (va_cpy (σ.1 k) (σ.1 k2) sp.toNatClampNeg dp.toNatClampNeg z.toNatClampNeg i))))[q]? = H[q]? := fun q hq => by simp [Array.getElem?_setIfInBounds, Ne.symm hq]
  have hheap : ((T.setVm vm').setCell (cB G + k2) (arrV (cCA G 1) n2 (fun i => .int (va_cpy (σ.1 k) (σ.1 k2) sp.toNatClampNeg dp.toNatClampNeg z.toNatClampNeg i)))).heap = H.setIfInBounds (cB G + k2) (arrV (cCA G 1) n2 (fun i => .int (va_cpy (σ.1 k) (σ.1 k2) sp.toNatClampNeg dp.toNatClampNeg z.toNatClampNeg i))) := by rw [← hT]; rfl
  obtain ⟨t, a1, b1⟩ := kk p e s m args below meth c C _ _ cells slots ls (hV.upd hs2 (fun a ha => funext fun q => by simp [wC, ha]) (fun _ _ => rfl) (fun _ _ => rfl) (by simp) oq (by
      show (H.setIfInBounds _ _)[cB G + k2]? = some (arrV (cCA G 1) n2 (fun i => .int ((wC σ k2 (va_cpy (σ.1 k) (σ.1 k2) sp.toNatClampNeg dp.toNatClampNeg z.toNatClampNeg)).1 k2 i)))
      simp [Array.getElem?_setIfInBounds, hlt, wC])) ⟨by simp; exact hS.1, fun q g1 g2 => by
      rw [oq q (fun e => g2 (by rw [e]; exact Nat.le_add_right _ _))]
      exact hS.2.1 q g1 g2, fun q hq => by
      rcases List.mem_append.mp hq with h | h
      · exact hS.2.2 q h
      · obtain ⟨z, -, hz⟩ := List.mem_map.mp h
        rw [← hz]
        exact Nat.le_add_right _ _⟩ h1 h2 hlv _ hheap X'
  exact ⟨t, step t a1, b1⟩
end Lib0
end
section
theorem kc_SD : KC 0 R_SD T_SD 9 := ⟨rfl, by decide +kernel, by decide +kernel, by decide +kernel⟩
theorem kc_Row : KC 1 R_Row T_Row 3 := ⟨rfl, by decide +kernel, by decide +kernel, by decide +kernel⟩
theorem kc_Substitution : KC 2 R_Substitution T_Substitution 5 := ⟨rfl, by decide +kernel, by decide +kernel, by decide +kernel⟩
theorem kc_Signs : KC 3 R_Signs T_Signs 5 := ⟨rfl, by decide +kernel, by decide +kernel, by decide +kernel⟩
theorem kc_SourceProgram : KC 4 R_SourceProgram T_SourceProgram 3 := ⟨rfl, by decide +kernel, by decide +kernel, by decide +kernel⟩
theorem kc_Tree : KC 5 R_Tree T_Tree 4 := ⟨rfl, by decide +kernel, by decide +kernel, by decide +kernel⟩
theorem kc_Node : KC 6 R_Node T_Node 14 := ⟨rfl, by decide +kernel, by decide +kernel, by decide +kernel⟩
theorem kc_Driver : KC 7 R_Driver T_Driver 8 := ⟨rfl, by decide +kernel, by decide +kernel, by decide +kernel⟩
theorem kc_Generaliser : KC 8 R_Generaliser T_Generaliser 7 := ⟨rfl, by decide +kernel, by decide +kernel, by decide +kernel⟩
theorem kc_ResidualProgram : KC 9 R_ResidualProgram T_ResidualProgram 3 := ⟨rfl, by decide +kernel, by decide +kernel, by decide +kernel⟩
theorem kc_Runner : KC 10 R_Runner T_Runner 6 := ⟨rfl, by decide +kernel, by decide +kernel, by decide +kernel⟩
theorem kc_Mo : KC 11 R_Mo T_Mo 47 := ⟨rfl, by decide +kernel, by decide +kernel, by decide +kernel⟩
theorem k_SD_init : LK M_SD_init 0 := ⟨⟨tb1_in (i := 26) rfl, rfl⟩, ⟨tb1_in (i := 1) rfl, rfl⟩, ⟨by decide, by decide⟩, by decide +kernel, rfl, by decide⟩
theorem v_SD_init : gd (.instanceMethod (my M_SD_init)) := ⟨tb1_in (i := 25) rfl, rfl⟩
theorem k_SD_allInputsAreThere : LK M_SD_allInputsAreThere 0 := ⟨⟨tb5_in (i := 1) rfl, rfl⟩, ⟨tb1_in (i := 1) rfl, rfl⟩, ⟨by decide, by decide⟩, by decide +kernel, rfl, by decide⟩
theorem v_SD_allInputsAreThere : gd (.instanceMethod (my M_SD_allInputsAreThere)) := ⟨tb5_in (i := 0) rfl, rfl⟩
theorem s_SD_allInputsAreThere : gd (.selects "SuperDriver" (my M_SD_allInputsAreThere) (my M_SD_allInputsAreThere)) := ⟨pv_in (i := 20) rfl, rfl⟩
theorem k_SD_body : LK M_SD_body 2 := ⟨⟨tb3_in (i := 108) rfl, rfl⟩, ⟨tb1_in (i := 1) rfl, rfl⟩, ⟨by decide, by decide⟩, by decide +kernel, rfl, by decide⟩
theorem v_SD_body : gd (.instanceMethod (my M_SD_body)) := ⟨tb3_in (i := 106) rfl, rfl⟩
theorem s_SD_body : gd (.selects "SuperDriver" (my M_SD_body) (my M_SD_body)) := ⟨tb3_in (i := 107) rfl, rfl⟩
theorem k_SD_drive : LK M_SD_drive 0 := ⟨⟨tb3_in (i := 154) rfl, rfl⟩, ⟨tb1_in (i := 1) rfl, rfl⟩, ⟨by decide, by decide⟩, by decide +kernel, rfl, by decide⟩
theorem v_SD_drive : gd (.instanceMethod (my M_SD_drive)) := ⟨tb3_in (i := 152) rfl, rfl⟩
theorem s_SD_drive : gd (.selects "SuperDriver" (my M_SD_drive) (my M_SD_drive)) := ⟨tb3_in (i := 153) rfl, rfl⟩
theorem k_SD_forget : LK M_SD_forget 0 := ⟨⟨tb2_in (i := 144) rfl, rfl⟩, ⟨tb1_in (i := 1) rfl, rfl⟩, ⟨by decide, by decide⟩, by decide +kernel, rfl, by decide⟩
theorem v_SD_forget : gd (.instanceMethod (my M_SD_forget)) := ⟨tb2_in (i := 142) rfl, rfl⟩
theorem s_SD_forget : gd (.selects "SuperDriver" (my M_SD_forget) (my M_SD_forget)) := ⟨tb2_in (i := 143) rfl, rfl⟩
theorem k_SD_function : LK M_SD_function 3 := ⟨⟨tb3_in (i := 8) rfl, rfl⟩, ⟨tb1_in (i := 1) rfl, rfl⟩, ⟨by decide, by decide⟩, by decide +kernel, rfl, by decide⟩
theorem v_SD_function : gd (.instanceMethod (my M_SD_function)) := ⟨tb3_in (i := 6) rfl, rfl⟩
theorem s_SD_function : gd (.selects "SuperDriver" (my M_SD_function) (my M_SD_function)) := ⟨tb3_in (i := 7) rfl, rfl⟩
theorem k_SD_goal : LK M_SD_goal 0 := ⟨⟨tb3_in (i := 144) rfl, rfl⟩, ⟨tb1_in (i := 1) rfl, rfl⟩, ⟨by decide, by decide⟩, by decide +kernel, rfl, by decide⟩
theorem v_SD_goal : gd (.instanceMethod (my M_SD_goal)) := ⟨tb3_in (i := 142) rfl, rfl⟩
theorem s_SD_goal : gd (.selects "SuperDriver" (my M_SD_goal) (my M_SD_goal)) := ⟨tb3_in (i := 143) rfl, rfl⟩
theorem k_SD_input : LK M_SD_input 1 := ⟨⟨tb2_in (i := 168) rfl, rfl⟩, ⟨tb1_in (i := 1) rfl, rfl⟩, ⟨by decide, by decide⟩, by decide +kernel, rfl, by decide⟩
theorem v_SD_input : gd (.instanceMethod (my M_SD_input)) := ⟨tb2_in (i := 166) rfl, rfl⟩
theorem s_SD_input : gd (.selects "SuperDriver" (my M_SD_input) (my M_SD_input)) := ⟨tb2_in (i := 167) rfl, rfl⟩
theorem k_SD_isCall : LK M_SD_isCall 1 := ⟨⟨tb2_in (i := 155) rfl, rfl⟩, ⟨tb1_in (i := 1) rfl, rfl⟩, ⟨by decide, by decide⟩, by decide +kernel, rfl, by decide⟩
theorem z_SD_isCall : gd (.static (my M_SD_isCall)) := ⟨tb2_in (i := 154) rfl, rfl⟩
theorem k_SD_isConstructor : LK M_SD_isConstructor 1 := ⟨⟨tb2_in (i := 180) rfl, rfl⟩, ⟨tb1_in (i := 1) rfl, rfl⟩, ⟨by decide, by decide⟩, by decide +kernel, rfl, by decide⟩
theorem z_SD_isConstructor : gd (.static (my M_SD_isConstructor)) := ⟨tb2_in (i := 179) rfl, rfl⟩
theorem k_SD_isVariable : LK M_SD_isVariable 1 := ⟨⟨tb3_in (i := 126) rfl, rfl⟩, ⟨tb1_in (i := 1) rfl, rfl⟩, ⟨by decide, by decide⟩, by decide +kernel, rfl, by decide⟩
theorem z_SD_isVariable : gd (.static (my M_SD_isVariable)) := ⟨tb3_in (i := 125) rfl, rfl⟩
theorem k_SD_letterAt : LK M_SD_letterAt 2 := ⟨⟨tb2_in (i := 121) rfl, rfl⟩, ⟨tb1_in (i := 1) rfl, rfl⟩, ⟨by decide, by decide⟩, by decide +kernel, rfl, by decide⟩
theorem z_SD_letterAt : gd (.static (my M_SD_letterAt)) := ⟨tb2_in (i := 120) rfl, rfl⟩
theorem k_SD_node : LK M_SD_node 2 := ⟨⟨tb2_in (i := 207) rfl, rfl⟩, ⟨tb1_in (i := 1) rfl, rfl⟩, ⟨by decide, by decide⟩, by decide +kernel, rfl, by decide⟩
theorem v_SD_node : gd (.instanceMethod (my M_SD_node)) := ⟨tb2_in (i := 205) rfl, rfl⟩
theorem s_SD_node : gd (.selects "SuperDriver" (my M_SD_node) (my M_SD_node)) := ⟨tb2_in (i := 206) rfl, rfl⟩
theorem k_SD_partsOfConstructor : LK M_SD_partsOfConstructor 1 := ⟨⟨tb3_in (i := 120) rfl, rfl⟩, ⟨tb1_in (i := 1) rfl, rfl⟩, ⟨by decide, by decide⟩, by decide +kernel, rfl, by decide⟩
theorem z_SD_partsOfConstructor : gd (.static (my M_SD_partsOfConstructor)) := ⟨tb3_in (i := 119) rfl, rfl⟩
theorem k_SD_residual : LK M_SD_residual 2 := ⟨⟨tb2_in (i := 220) rfl, rfl⟩, ⟨tb1_in (i := 1) rfl, rfl⟩, ⟨by decide, by decide⟩, by decide +kernel, rfl, by decide⟩
theorem v_SD_residual : gd (.instanceMethod (my M_SD_residual)) := ⟨tb2_in (i := 218) rfl, rfl⟩
theorem s_SD_residual : gd (.selects "SuperDriver" (my M_SD_residual) (my M_SD_residual)) := ⟨tb2_in (i := 219) rfl, rfl⟩
theorem k_SD_result : LK M_SD_result 1 := ⟨⟨tb2_in (i := 224) rfl, rfl⟩, ⟨tb1_in (i := 1) rfl, rfl⟩, ⟨by decide, by decide⟩, by decide +kernel, rfl, by decide⟩
theorem v_SD_result : gd (.instanceMethod (my M_SD_result)) := ⟨tb2_in (i := 222) rfl, rfl⟩
theorem s_SD_result : gd (.selects "SuperDriver" (my M_SD_result) (my M_SD_result)) := ⟨tb2_in (i := 223) rfl, rfl⟩
theorem k_SD_run : LK M_SD_run 2 := ⟨⟨tb4_in (i := 232) rfl, rfl⟩, ⟨tb1_in (i := 1) rfl, rfl⟩, ⟨by decide, by decide⟩, by decide +kernel, rfl, by decide⟩
theorem v_SD_run : gd (.instanceMethod (my M_SD_run)) := ⟨tb4_in (i := 230) rfl, rfl⟩
theorem s_SD_run : gd (.selects "SuperDriver" (my M_SD_run) (my M_SD_run)) := ⟨tb4_in (i := 231) rfl, rfl⟩
theorem k_SD_signOf : LK M_SD_signOf 1 := ⟨⟨tb2_in (i := 124) rfl, rfl⟩, ⟨tb1_in (i := 1) rfl, rfl⟩, ⟨by decide, by decide⟩, by decide +kernel, rfl, by decide⟩
theorem z_SD_signOf : gd (.static (my M_SD_signOf)) := ⟨tb2_in (i := 123) rfl, rfl⟩
theorem k_SD_steps : LK M_SD_steps 0 := ⟨⟨tb2_in (i := 235) rfl, rfl⟩, ⟨tb1_in (i := 1) rfl, rfl⟩, ⟨by decide, by decide⟩, by decide +kernel, rfl, by decide⟩
theorem v_SD_steps : gd (.instanceMethod (my M_SD_steps)) := ⟨tb2_in (i := 233) rfl, rfl⟩
theorem s_SD_steps : gd (.selects "SuperDriver" (my M_SD_steps) (my M_SD_steps)) := ⟨tb2_in (i := 234) rfl, rfl⟩
theorem k_SD_term : LK M_SD_term 2 := ⟨⟨tb2_in (i := 215) rfl, rfl⟩, ⟨tb1_in (i := 1) rfl, rfl⟩, ⟨by decide, by decide⟩, by decide +kernel, rfl, by decide⟩
theorem v_SD_term : gd (.instanceMethod (my M_SD_term)) := ⟨tb2_in (i := 213) rfl, rfl⟩
theorem s_SD_term : gd (.selects "SuperDriver" (my M_SD_term) (my M_SD_term)) := ⟨tb2_in (i := 214) rfl, rfl⟩
theorem k_SD_type : LK M_SD_type 1 := ⟨⟨tb2_in (i := 118) rfl, rfl⟩, ⟨tb1_in (i := 1) rfl, rfl⟩, ⟨by decide, by decide⟩, by decide +kernel, rfl, by decide⟩
theorem v_SD_type : gd (.instanceMethod (my M_SD_type)) := ⟨tb2_in (i := 116) rfl, rfl⟩
theorem s_SD_type : gd (.selects "SuperDriver" (my M_SD_type) (my M_SD_type)) := ⟨tb2_in (i := 117) rfl, rfl⟩
theorem k_SD_wipe : LK M_SD_wipe 0 := ⟨⟨tb2_in (i := 136) rfl, rfl⟩, ⟨tb1_in (i := 1) rfl, rfl⟩, ⟨by decide, by decide⟩, by decide +kernel, rfl, by decide⟩
theorem v_SD_wipe : gd (.instanceMethod (my M_SD_wipe)) := ⟨tb2_in (i := 134) rfl, rfl⟩
theorem s_SD_wipe : gd (.selects "SuperDriver" (my M_SD_wipe) (my M_SD_wipe)) := ⟨tb2_in (i := 135) rfl, rfl⟩
theorem k_Driver_init : LK M_Driver_init 4 := ⟨⟨tb1_in (i := 229) rfl, rfl⟩, ⟨tb1_in (i := 10) rfl, rfl⟩, ⟨by decide, by decide⟩, by decide +kernel, rfl, by decide⟩
theorem v_Driver_init : gd (.instanceMethod (my M_Driver_init)) := ⟨tb1_in (i := 228) rfl, rfl⟩
theorem k_Driver_addClause : LK M_Driver_addClause 4 := ⟨⟨tb4_in (i := 163) rfl, rfl⟩, ⟨tb1_in (i := 10) rfl, rfl⟩, ⟨by decide, by decide⟩, by decide +kernel, rfl, by decide⟩
theorem v_Driver_addClause : gd (.instanceMethod (my M_Driver_addClause)) := ⟨tb4_in (i := 162) rfl, rfl⟩
theorem s_Driver_addClause : gd (.selects "SuperDriver$Driver" (my M_Driver_addClause) (my M_Driver_addClause)) := ⟨pv_in (i := 15) rfl, rfl⟩
theorem k_Driver_begin : LK M_Driver_begin 1 := ⟨⟨tb3_in (i := 163) rfl, rfl⟩, ⟨tb1_in (i := 10) rfl, rfl⟩, ⟨by decide, by decide⟩, by decide +kernel, rfl, by decide⟩
theorem v_Driver_begin : gd (.instanceMethod (my M_Driver_begin)) := ⟨tb3_in (i := 161) rfl, rfl⟩
theorem s_Driver_begin : gd (.selects "SuperDriver$Driver" (my M_Driver_begin) (my M_Driver_begin)) := ⟨tb3_in (i := 162) rfl, rfl⟩
theorem k_Driver_embeddedRival : LK M_Driver_embeddedRival 2 := ⟨⟨tb4_in (i := 30) rfl, rfl⟩, ⟨tb1_in (i := 10) rfl, rfl⟩, ⟨by decide, by decide⟩, by decide +kernel, rfl, by decide⟩
theorem v_Driver_embeddedRival : gd (.instanceMethod (my M_Driver_embeddedRival)) := ⟨tb4_in (i := 29) rfl, rfl⟩
theorem s_Driver_embeddedRival : gd (.selects "SuperDriver$Driver" (my M_Driver_embeddedRival) (my M_Driver_embeddedRival)) := ⟨pv_in (i := 3) rfl, rfl⟩
theorem k_Driver_nextRival : LK M_Driver_nextRival 2 := ⟨⟨tb4_in (i := 16) rfl, rfl⟩, ⟨tb1_in (i := 10) rfl, rfl⟩, ⟨by decide, by decide⟩, by decide +kernel, rfl, by decide⟩
theorem z_Driver_nextRival : gd (.static (my M_Driver_nextRival)) := ⟨tb4_in (i := 15) rfl, rfl⟩
theorem k_Driver_renamedRival : LK M_Driver_renamedRival 2 := ⟨⟨tb4_in (i := 13) rfl, rfl⟩, ⟨tb1_in (i := 10) rfl, rfl⟩, ⟨by decide, by decide⟩, by decide +kernel, rfl, by decide⟩
theorem z_Driver_renamedRival : gd (.static (my M_Driver_renamedRival)) := ⟨tb4_in (i := 12) rfl, rfl⟩
theorem k_Driver_settle : LK M_Driver_settle 1 := ⟨⟨tb3_in (i := 199) rfl, rfl⟩, ⟨tb1_in (i := 10) rfl, rfl⟩, ⟨by decide, by decide⟩, by decide +kernel, rfl, by decide⟩
theorem v_Driver_settle : gd (.instanceMethod (my M_Driver_settle)) := ⟨tb3_in (i := 197) rfl, rfl⟩
theorem s_Driver_settle : gd (.selects "SuperDriver$Driver" (my M_Driver_settle) (my M_Driver_settle)) := ⟨tb3_in (i := 198) rfl, rfl⟩
theorem k_Driver_settleWithoutCall : LK M_Driver_settleWithoutCall 1 := ⟨⟨tb3_in (i := 210) rfl, rfl⟩, ⟨tb1_in (i := 10) rfl, rfl⟩, ⟨by decide, by decide⟩, by decide +kernel, rfl, by decide⟩
theorem v_Driver_settleWithoutCall : gd (.instanceMethod (my M_Driver_settleWithoutCall)) := ⟨tb3_in (i := 209) rfl, rfl⟩
theorem s_Driver_settleWithoutCall : gd (.selects "SuperDriver$Driver" (my M_Driver_settleWithoutCall) (my M_Driver_settleWithoutCall)) := ⟨pv_in (i := 2) rfl, rfl⟩
theorem k_Driver_split : LK M_Driver_split 2 := ⟨⟨tb4_in (i := 158) rfl, rfl⟩, ⟨tb1_in (i := 10) rfl, rfl⟩, ⟨by decide, by decide⟩, by decide +kernel, rfl, by decide⟩
theorem v_Driver_split : gd (.instanceMethod (my M_Driver_split)) := ⟨tb4_in (i := 157) rfl, rfl⟩
theorem s_Driver_split : gd (.selects "SuperDriver$Driver" (my M_Driver_split) (my M_Driver_split)) := ⟨pv_in (i := 14) rfl, rfl⟩
theorem k_Driver_step : LK M_Driver_step 2 := ⟨⟨tb4_in (i := 113) rfl, rfl⟩, ⟨tb1_in (i := 10) rfl, rfl⟩, ⟨by decide, by decide⟩, by decide +kernel, rfl, by decide⟩
theorem v_Driver_step : gd (.instanceMethod (my M_Driver_step)) := ⟨tb4_in (i := 112) rfl, rfl⟩
theorem s_Driver_step : gd (.selects "SuperDriver$Driver" (my M_Driver_step) (my M_Driver_step)) := ⟨pv_in (i := 13) rfl, rfl⟩
theorem k_Generaliser_init : LK M_Generaliser_init 2 := ⟨⟨tb1_in (i := 237) rfl, rfl⟩, ⟨tb1_in (i := 11) rfl, rfl⟩, ⟨by decide, by decide⟩, by decide +kernel, rfl, by decide⟩
theorem v_Generaliser_init : gd (.instanceMethod (my M_Generaliser_init)) := ⟨tb1_in (i := 236) rfl, rfl⟩
theorem k_Generaliser_generalise : LK M_Generaliser_generalise 2 := ⟨⟨tb4_in (i := 61) rfl, rfl⟩, ⟨tb1_in (i := 11) rfl, rfl⟩, ⟨by decide, by decide⟩, by decide +kernel, rfl, by decide⟩
theorem v_Generaliser_generalise : gd (.instanceMethod (my M_Generaliser_generalise)) := ⟨tb4_in (i := 59) rfl, rfl⟩
theorem s_Generaliser_generalise : gd (.selects "SuperDriver$Generaliser" (my M_Generaliser_generalise) (my M_Generaliser_generalise)) := ⟨tb4_in (i := 60) rfl, rfl⟩
theorem k_Generaliser_let : LK M_Generaliser_let 2 := ⟨⟨tb4_in (i := 82) rfl, rfl⟩, ⟨tb1_in (i := 11) rfl, rfl⟩, ⟨by decide, by decide⟩, by decide +kernel, rfl, by decide⟩
theorem v_Generaliser_let : gd (.instanceMethod (my M_Generaliser_let)) := ⟨tb4_in (i := 81) rfl, rfl⟩
theorem s_Generaliser_let : gd (.selects "SuperDriver$Generaliser" (my M_Generaliser_let) (my M_Generaliser_let)) := ⟨pv_in (i := 10) rfl, rfl⟩
theorem k_Generaliser_metBefore : LK M_Generaliser_metBefore 6 := ⟨⟨tb4_in (i := 93) rfl, rfl⟩, ⟨tb1_in (i := 11) rfl, rfl⟩, ⟨by decide, by decide⟩, by decide +kernel, rfl, by decide⟩
theorem v_Generaliser_metBefore : gd (.instanceMethod (my M_Generaliser_metBefore)) := ⟨tb4_in (i := 92) rfl, rfl⟩
theorem s_Generaliser_metBefore : gd (.selects "SuperDriver$Generaliser" (my M_Generaliser_metBefore) (my M_Generaliser_metBefore)) := ⟨pv_in (i := 12) rfl, rfl⟩
theorem k_Generaliser_newVariable : LK M_Generaliser_newVariable 2 := ⟨⟨tb4_in (i := 73) rfl, rfl⟩, ⟨tb1_in (i := 11) rfl, rfl⟩, ⟨by decide, by decide⟩, by decide +kernel, rfl, by decide⟩
theorem v_Generaliser_newVariable : gd (.instanceMethod (my M_Generaliser_newVariable)) := ⟨tb4_in (i := 72) rfl, rfl⟩
theorem s_Generaliser_newVariable : gd (.selects "SuperDriver$Generaliser" (my M_Generaliser_newVariable) (my M_Generaliser_newVariable)) := ⟨pv_in (i := 9) rfl, rfl⟩
theorem k_Generaliser_takeApart : LK M_Generaliser_takeApart 1 := ⟨⟨tb4_in (i := 67) rfl, rfl⟩, ⟨tb1_in (i := 11) rfl, rfl⟩, ⟨by decide, by decide⟩, by decide +kernel, rfl, by decide⟩
theorem v_Generaliser_takeApart : gd (.instanceMethod (my M_Generaliser_takeApart)) := ⟨tb4_in (i := 66) rfl, rfl⟩
theorem s_Generaliser_takeApart : gd (.selects "SuperDriver$Generaliser" (my M_Generaliser_takeApart) (my M_Generaliser_takeApart)) := ⟨pv_in (i := 8) rfl, rfl⟩
theorem k_Generaliser_takeCommon : LK M_Generaliser_takeCommon 2 := ⟨⟨tb4_in (i := 89) rfl, rfl⟩, ⟨tb1_in (i := 11) rfl, rfl⟩, ⟨by decide, by decide⟩, by decide +kernel, rfl, by decide⟩
theorem v_Generaliser_takeCommon : gd (.instanceMethod (my M_Generaliser_takeCommon)) := ⟨tb4_in (i := 88) rfl, rfl⟩
theorem s_Generaliser_takeCommon : gd (.selects "SuperDriver$Generaliser" (my M_Generaliser_takeCommon) (my M_Generaliser_takeCommon)) := ⟨pv_in (i := 11) rfl, rfl⟩
theorem k_Node_init : LK M_Node_init 1 := ⟨⟨tb1_in (i := 138) rfl, rfl⟩, ⟨tb1_in (i := 9) rfl, rfl⟩, ⟨by decide, by decide⟩, by decide +kernel, rfl, by decide⟩
theorem v_Node_init : gd (.instanceMethod (my M_Node_init)) := ⟨tb1_in (i := 137) rfl, rfl⟩
theorem k_Node_become : LK M_Node_become 2 := ⟨⟨tb3_in (i := 187) rfl, rfl⟩, ⟨tb1_in (i := 9) rfl, rfl⟩, ⟨by decide, by decide⟩, by decide +kernel, rfl, by decide⟩
theorem v_Node_become : gd (.instanceMethod (my M_Node_become)) := ⟨tb3_in (i := 185) rfl, rfl⟩
theorem s_Node_become : gd (.selects "SuperDriver$Node" (my M_Node_become) (my M_Node_become)) := ⟨tb3_in (i := 186) rfl, rfl⟩
theorem k_Node_dropBelow : LK M_Node_dropBelow 0 := ⟨⟨tb3_in (i := 183) rfl, rfl⟩, ⟨tb1_in (i := 9) rfl, rfl⟩, ⟨by decide, by decide⟩, by decide +kernel, rfl, by decide⟩
theorem v_Node_dropBelow : gd (.instanceMethod (my M_Node_dropBelow)) := ⟨tb3_in (i := 181) rfl, rfl⟩
theorem s_Node_dropBelow : gd (.selects "SuperDriver$Node" (my M_Node_dropBelow) (my M_Node_dropBelow)) := ⟨tb3_in (i := 182) rfl, rfl⟩
theorem k_Node_fold : LK M_Node_fold 1 := ⟨⟨tb4_in (i := 57) rfl, rfl⟩, ⟨tb1_in (i := 9) rfl, rfl⟩, ⟨by decide, by decide⟩, by decide +kernel, rfl, by decide⟩
theorem v_Node_fold : gd (.instanceMethod (my M_Node_fold)) := ⟨tb4_in (i := 55) rfl, rfl⟩
theorem s_Node_fold : gd (.selects "SuperDriver$Node" (my M_Node_fold) (my M_Node_fold)) := ⟨tb4_in (i := 56) rfl, rfl⟩
theorem k_Node_isBelow : LK M_Node_isBelow 1 := ⟨⟨tb4_in (i := 107) rfl, rfl⟩, ⟨tb1_in (i := 9) rfl, rfl⟩, ⟨by decide, by decide⟩, by decide +kernel, rfl, by decide⟩
theorem v_Node_isBelow : gd (.instanceMethod (my M_Node_isBelow)) := ⟨tb4_in (i := 105) rfl, rfl⟩
theorem s_Node_isBelow : gd (.selects "SuperDriver$Node" (my M_Node_isBelow) (my M_Node_isBelow)) := ⟨tb4_in (i := 106) rfl, rfl⟩
theorem k_Node_open : LK M_Node_open 4 := ⟨⟨tb3_in (i := 177) rfl, rfl⟩, ⟨tb1_in (i := 9) rfl, rfl⟩, ⟨by decide, by decide⟩, by decide +kernel, rfl, by decide⟩
theorem v_Node_open : gd (.instanceMethod (my M_Node_open)) := ⟨tb3_in (i := 175) rfl, rfl⟩
theorem s_Node_open : gd (.selects "SuperDriver$Node" (my M_Node_open) (my M_Node_open)) := ⟨tb3_in (i := 176) rfl, rfl⟩
theorem k_Node_put : LK M_Node_put 1 := ⟨⟨tb3_in (i := 191) rfl, rfl⟩, ⟨tb1_in (i := 9) rfl, rfl⟩, ⟨by decide, by decide⟩, by decide +kernel, rfl, by decide⟩
theorem v_Node_put : gd (.instanceMethod (my M_Node_put)) := ⟨tb3_in (i := 189) rfl, rfl⟩
theorem s_Node_put : gd (.selects "SuperDriver$Node" (my M_Node_put) (my M_Node_put)) := ⟨tb3_in (i := 190) rfl, rfl⟩
theorem k_Program_init : LK M_Program_init 2 := ⟨⟨tb1_in (i := 107) rfl, rfl⟩, ⟨tb1_in (i := 6) rfl, rfl⟩, ⟨by decide, by decide⟩, by decide +kernel, rfl, by decide⟩
theorem v_Program_init : gd (.instanceMethod (my M_Program_init)) := ⟨tb1_in (i := 106) rfl, rfl⟩
theorem k_Program_constructorAskedFor : LK M_Program_constructorAskedFor 2 := ⟨⟨tb3_in (i := 231) rfl, rfl⟩, ⟨tb1_in (i := 6) rfl, rfl⟩, ⟨by decide, by decide⟩, by decide +kernel, rfl, by decide⟩
theorem v_Program_constructorAskedFor : gd (.instanceMethod (my M_Program_constructorAskedFor)) := ⟨tb3_in (i := 230) rfl, rfl⟩
theorem k_Program_unfold : LK M_Program_unfold 3 := ⟨⟨tb4_in (i := 119) rfl, rfl⟩, ⟨tb1_in (i := 6) rfl, rfl⟩, ⟨by decide, by decide⟩, by decide +kernel, rfl, by decide⟩
theorem v_Program_unfold : gd (.instanceMethod (my M_Program_unfold)) := ⟨tb4_in (i := 115) rfl, rfl⟩
theorem s4_Program_unfold : gd (.selects "SuperDriver$SourceProgram" (my M_Program_unfold) (my M_Program_unfold)) := ⟨tb4_in (i := 118) rfl, rfl⟩
theorem s9_Program_unfold : gd (.selects "SuperDriver$ResidualProgram" (my M_Program_unfold) (my M_Program_unfold)) := ⟨tb4_in (i := 117) rfl, rfl⟩
theorem k_Program_unfolds : LK M_Program_unfolds 2 := ⟨⟨tb3_in (i := 227) rfl, rfl⟩, ⟨tb1_in (i := 6) rfl, rfl⟩, ⟨by decide, by decide⟩, by decide +kernel, rfl, by decide⟩
theorem v_Program_unfolds : gd (.instanceMethod (my M_Program_unfolds)) := ⟨tb3_in (i := 223) rfl, rfl⟩
theorem s4_Program_unfolds : gd (.selects "SuperDriver$SourceProgram" (my M_Program_unfolds) (my M_Program_unfolds)) := ⟨tb3_in (i := 226) rfl, rfl⟩
theorem s9_Program_unfolds : gd (.selects "SuperDriver$ResidualProgram" (my M_Program_unfolds) (my M_Program_unfolds)) := ⟨tb3_in (i := 225) rfl, rfl⟩
theorem k_ResidualProgram_init : LK M_ResidualProgram_init 3 := ⟨⟨tb2_in (i := 52) rfl, rfl⟩, ⟨tb1_in (i := 12) rfl, rfl⟩, ⟨by decide, by decide⟩, by decide +kernel, rfl, by decide⟩
theorem v_ResidualProgram_init : gd (.instanceMethod (my M_ResidualProgram_init)) := ⟨tb2_in (i := 51) rfl, rfl⟩
theorem k_ResidualProgram_addAllBelow : LK M_ResidualProgram_addAllBelow 1 := ⟨⟨tb4_in (i := 197) rfl, rfl⟩, ⟨tb1_in (i := 12) rfl, rfl⟩, ⟨by decide, by decide⟩, by decide +kernel, rfl, by decide⟩
theorem z_ResidualProgram_addAllBelow : gd (.static (my M_ResidualProgram_addAllBelow)) := ⟨tb4_in (i := 196) rfl, rfl⟩
theorem k_ResidualProgram_bodyOf : LK M_ResidualProgram_bodyOf 2 := ⟨⟨tb4_in (i := 0) rfl, rfl⟩, ⟨tb1_in (i := 12) rfl, rfl⟩, ⟨by decide, by decide⟩, by decide +kernel, rfl, by decide⟩
theorem v_ResidualProgram_bodyOf : gd (.instanceMethod (my M_ResidualProgram_bodyOf)) := ⟨tb3_in (i := 239) rfl, rfl⟩
theorem k_ResidualProgram_clauseBelow : LK M_ResidualProgram_clauseBelow 2 := ⟨⟨tb4_in (i := 4) rfl, rfl⟩, ⟨tb1_in (i := 12) rfl, rfl⟩, ⟨by decide, by decide⟩, by decide +kernel, rfl, by decide⟩
theorem z_ResidualProgram_clauseBelow : gd (.static (my M_ResidualProgram_clauseBelow)) := ⟨tb4_in (i := 3) rfl, rfl⟩
theorem k_ResidualProgram_markFunctions : LK M_ResidualProgram_markFunctions 0 := ⟨⟨tb4_in (i := 179) rfl, rfl⟩, ⟨tb1_in (i := 12) rfl, rfl⟩, ⟨by decide, by decide⟩, by decide +kernel, rfl, by decide⟩
theorem v_ResidualProgram_markFunctions : gd (.instanceMethod (my M_ResidualProgram_markFunctions)) := ⟨tb4_in (i := 178) rfl, rfl⟩
theorem s_ResidualProgram_markFunctions : gd (.selects "SuperDriver$ResidualProgram" (my M_ResidualProgram_markFunctions) (my M_ResidualProgram_markFunctions)) := ⟨pv_in (i := 16) rfl, rfl⟩
theorem k_ResidualProgram_start : LK M_ResidualProgram_start 0 := ⟨⟨tb4_in (i := 237) rfl, rfl⟩, ⟨tb1_in (i := 12) rfl, rfl⟩, ⟨by decide, by decide⟩, by decide +kernel, rfl, by decide⟩
theorem v_ResidualProgram_start : gd (.instanceMethod (my M_ResidualProgram_start)) := ⟨tb4_in (i := 235) rfl, rfl⟩
theorem s_ResidualProgram_start : gd (.selects "SuperDriver$ResidualProgram" (my M_ResidualProgram_start) (my M_ResidualProgram_start)) := ⟨tb4_in (i := 236) rfl, rfl⟩
theorem k_ResidualProgram_variableOf : LK M_ResidualProgram_variableOf 3 := ⟨⟨tb4_in (i := 132) rfl, rfl⟩, ⟨tb1_in (i := 12) rfl, rfl⟩, ⟨by decide, by decide⟩, by decide +kernel, rfl, by decide⟩
theorem v_ResidualProgram_variableOf : gd (.instanceMethod (my M_ResidualProgram_variableOf)) := ⟨tb4_in (i := 131) rfl, rfl⟩
theorem k_ResidualProgram_write : LK M_ResidualProgram_write 0 := ⟨⟨tb4_in (i := 175) rfl, rfl⟩, ⟨tb1_in (i := 12) rfl, rfl⟩, ⟨by decide, by decide⟩, by decide +kernel, rfl, by decide⟩
theorem v_ResidualProgram_write : gd (.instanceMethod (my M_ResidualProgram_write)) := ⟨tb4_in (i := 173) rfl, rfl⟩
theorem s_ResidualProgram_write : gd (.selects "SuperDriver$ResidualProgram" (my M_ResidualProgram_write) (my M_ResidualProgram_write)) := ⟨tb4_in (i := 174) rfl, rfl⟩
theorem k_ResidualProgram_writeFold : LK M_ResidualProgram_writeFold 1 := ⟨⟨tb4_in (i := 201) rfl, rfl⟩, ⟨tb1_in (i := 12) rfl, rfl⟩, ⟨by decide, by decide⟩, by decide +kernel, rfl, by decide⟩
theorem z_ResidualProgram_writeFold : gd (.static (my M_ResidualProgram_writeFold)) := ⟨tb4_in (i := 200) rfl, rfl⟩
theorem k_ResidualProgram_writeInline : LK M_ResidualProgram_writeInline 1 := ⟨⟨tb4_in (i := 193) rfl, rfl⟩, ⟨tb1_in (i := 12) rfl, rfl⟩, ⟨by decide, by decide⟩, by decide +kernel, rfl, by decide⟩
theorem v_ResidualProgram_writeInline : gd (.instanceMethod (my M_ResidualProgram_writeInline)) := ⟨tb4_in (i := 192) rfl, rfl⟩
theorem s_ResidualProgram_writeInline : gd (.selects "SuperDriver$ResidualProgram" (my M_ResidualProgram_writeInline) (my M_ResidualProgram_writeInline)) := ⟨pv_in (i := 18) rfl, rfl⟩
theorem k_ResidualProgram_writeLet : LK M_ResidualProgram_writeLet 1 := ⟨⟨tb4_in (i := 205) rfl, rfl⟩, ⟨tb1_in (i := 12) rfl, rfl⟩, ⟨by decide, by decide⟩, by decide +kernel, rfl, by decide⟩
theorem v_ResidualProgram_writeLet : gd (.instanceMethod (my M_ResidualProgram_writeLet)) := ⟨tb4_in (i := 204) rfl, rfl⟩
theorem s_ResidualProgram_writeLet : gd (.selects "SuperDriver$ResidualProgram" (my M_ResidualProgram_writeLet) (my M_ResidualProgram_writeLet)) := ⟨pv_in (i := 19) rfl, rfl⟩
theorem k_ResidualProgram_writeOwnCall : LK M_ResidualProgram_writeOwnCall 1 := ⟨⟨tb4_in (i := 184) rfl, rfl⟩, ⟨tb1_in (i := 12) rfl, rfl⟩, ⟨by decide, by decide⟩, by decide +kernel, rfl, by decide⟩
theorem v_ResidualProgram_writeOwnCall : gd (.instanceMethod (my M_ResidualProgram_writeOwnCall)) := ⟨tb4_in (i := 183) rfl, rfl⟩
theorem s_ResidualProgram_writeOwnCall : gd (.selects "SuperDriver$ResidualProgram" (my M_ResidualProgram_writeOwnCall) (my M_ResidualProgram_writeOwnCall)) := ⟨pv_in (i := 17) rfl, rfl⟩
theorem k_Row_init : LK M_Row_init 1 := ⟨⟨tb1_in (i := 34) rfl, rfl⟩, ⟨tb1_in (i := 2) rfl, rfl⟩, ⟨by decide, by decide⟩, by decide +kernel, rfl, by decide⟩
theorem v_Row_init : gd (.instanceMethod (my M_Row_init)) := ⟨tb1_in (i := 33) rfl, rfl⟩
theorem k_Row_add : LK M_Row_add 1 := ⟨⟨tb2_in (i := 132) rfl, rfl⟩, ⟨tb1_in (i := 2) rfl, rfl⟩, ⟨by decide, by decide⟩, by decide +kernel, rfl, by decide⟩
theorem v_Row_add : gd (.instanceMethod (my M_Row_add)) := ⟨tb2_in (i := 130) rfl, rfl⟩
theorem s_Row_add : gd (.selects "SuperDriver$Row" (my M_Row_add) (my M_Row_add)) := ⟨tb2_in (i := 131) rfl, rfl⟩
theorem k_Row_addRange : LK M_Row_addRange 3 := ⟨⟨tb2_in (i := 197) rfl, rfl⟩, ⟨tb1_in (i := 2) rfl, rfl⟩, ⟨by decide, by decide⟩, by decide +kernel, rfl, by decide⟩
theorem v_Row_addRange : gd (.instanceMethod (my M_Row_addRange)) := ⟨tb2_in (i := 195) rfl, rfl⟩
theorem s_Row_addRange : gd (.selects "SuperDriver$Row" (my M_Row_addRange) (my M_Row_addRange)) := ⟨tb2_in (i := 196) rfl, rfl⟩
theorem k_Row_at : LK M_Row_at 1 := ⟨⟨tb2_in (i := 177) rfl, rfl⟩, ⟨tb1_in (i := 2) rfl, rfl⟩, ⟨by decide, by decide⟩, by decide +kernel, rfl, by decide⟩
theorem v_Row_at : gd (.instanceMethod (my M_Row_at)) := ⟨tb2_in (i := 175) rfl, rfl⟩
theorem s_Row_at : gd (.selects "SuperDriver$Row" (my M_Row_at) (my M_Row_at)) := ⟨tb2_in (i := 176) rfl, rfl⟩
theorem k_Row_clear : LK M_Row_clear 0 := ⟨⟨tb2_in (i := 140) rfl, rfl⟩, ⟨tb1_in (i := 2) rfl, rfl⟩, ⟨by decide, by decide⟩, by decide +kernel, rfl, by decide⟩
theorem v_Row_clear : gd (.instanceMethod (my M_Row_clear)) := ⟨tb2_in (i := 138) rfl, rfl⟩
theorem s_Row_clear : gd (.selects "SuperDriver$Row" (my M_Row_clear) (my M_Row_clear)) := ⟨tb2_in (i := 139) rfl, rfl⟩
theorem k_Row_copy : LK M_Row_copy 1 := ⟨⟨tb2_in (i := 192) rfl, rfl⟩, ⟨tb1_in (i := 2) rfl, rfl⟩, ⟨by decide, by decide⟩, by decide +kernel, rfl, by decide⟩
theorem v_Row_copy : gd (.instanceMethod (my M_Row_copy)) := ⟨tb2_in (i := 190) rfl, rfl⟩
theorem s_Row_copy : gd (.selects "SuperDriver$Row" (my M_Row_copy) (my M_Row_copy)) := ⟨tb2_in (i := 191) rfl, rfl⟩
theorem k_Row_indexOf : LK M_Row_indexOf 1 := ⟨⟨tb4_in (i := 26) rfl, rfl⟩, ⟨tb1_in (i := 2) rfl, rfl⟩, ⟨by decide, by decide⟩, by decide +kernel, rfl, by decide⟩
theorem v_Row_indexOf : gd (.instanceMethod (my M_Row_indexOf)) := ⟨tb4_in (i := 24) rfl, rfl⟩
theorem s_Row_indexOf : gd (.selects "SuperDriver$Row" (my M_Row_indexOf) (my M_Row_indexOf)) := ⟨tb4_in (i := 25) rfl, rfl⟩
theorem k_Row_isEmpty : LK M_Row_isEmpty 0 := ⟨⟨tb3_in (i := 158) rfl, rfl⟩, ⟨tb1_in (i := 2) rfl, rfl⟩, ⟨by decide, by decide⟩, by decide +kernel, rfl, by decide⟩
theorem v_Row_isEmpty : gd (.instanceMethod (my M_Row_isEmpty)) := ⟨tb3_in (i := 156) rfl, rfl⟩
theorem s_Row_isEmpty : gd (.selects "SuperDriver$Row" (my M_Row_isEmpty) (my M_Row_isEmpty)) := ⟨tb3_in (i := 157) rfl, rfl⟩
theorem k_Row_isRenamingOf : LK M_Row_isRenamingOf 1 := ⟨⟨tb4_in (i := 20) rfl, rfl⟩, ⟨tb1_in (i := 2) rfl, rfl⟩, ⟨by decide, by decide⟩, by decide +kernel, rfl, by decide⟩
theorem v_Row_isRenamingOf : gd (.instanceMethod (my M_Row_isRenamingOf)) := ⟨tb4_in (i := 18) rfl, rfl⟩
theorem s_Row_isRenamingOf : gd (.selects "SuperDriver$Row" (my M_Row_isRenamingOf) (my M_Row_isRenamingOf)) := ⟨tb4_in (i := 19) rfl, rfl⟩
theorem k_Row_isTooLong : LK M_Row_isTooLong 0 := ⟨⟨tb3_in (i := 173) rfl, rfl⟩, ⟨tb1_in (i := 2) rfl, rfl⟩, ⟨by decide, by decide⟩, by decide +kernel, rfl, by decide⟩
theorem v_Row_isTooLong : gd (.instanceMethod (my M_Row_isTooLong)) := ⟨tb3_in (i := 171) rfl, rfl⟩
theorem s_Row_isTooLong : gd (.selects "SuperDriver$Row" (my M_Row_isTooLong) (my M_Row_isTooLong)) := ⟨tb3_in (i := 172) rfl, rfl⟩
theorem k_Row_length : LK M_Row_length 0 := ⟨⟨tb2_in (i := 128) rfl, rfl⟩, ⟨tb1_in (i := 2) rfl, rfl⟩, ⟨by decide, by decide⟩, by decide +kernel, rfl, by decide⟩
theorem v_Row_length : gd (.instanceMethod (my M_Row_length)) := ⟨tb2_in (i := 126) rfl, rfl⟩
theorem s_Row_length : gd (.selects "SuperDriver$Row" (my M_Row_length) (my M_Row_length)) := ⟨tb2_in (i := 127) rfl, rfl⟩
theorem k_Row_repeats : LK M_Row_repeats 3 := ⟨⟨tb4_in (i := 97) rfl, rfl⟩, ⟨tb1_in (i := 2) rfl, rfl⟩, ⟨by decide, by decide⟩, by decide +kernel, rfl, by decide⟩
theorem v_Row_repeats : gd (.instanceMethod (my M_Row_repeats)) := ⟨tb4_in (i := 95) rfl, rfl⟩
theorem s_Row_repeats : gd (.selects "SuperDriver$Row" (my M_Row_repeats) (my M_Row_repeats)) := ⟨tb4_in (i := 96) rfl, rfl⟩
theorem k_Runner_init : LK M_Runner_init 2 := ⟨⟨tb2_in (i := 64) rfl, rfl⟩, ⟨tb1_in (i := 13) rfl, rfl⟩, ⟨by decide, by decide⟩, by decide +kernel, rfl, by decide⟩
theorem v_Runner_init : gd (.instanceMethod (my M_Runner_init)) := ⟨tb2_in (i := 63) rfl, rfl⟩
theorem k_Runner_begin : LK M_Runner_begin 2 := ⟨⟨tb5_in (i := 6) rfl, rfl⟩, ⟨tb1_in (i := 13) rfl, rfl⟩, ⟨by decide, by decide⟩, by decide +kernel, rfl, by decide⟩
theorem v_Runner_begin : gd (.instanceMethod (my M_Runner_begin)) := ⟨tb5_in (i := 4) rfl, rfl⟩
theorem s_Runner_begin : gd (.selects "SuperDriver$Runner" (my M_Runner_begin) (my M_Runner_begin)) := ⟨tb5_in (i := 5) rfl, rfl⟩
theorem k_Runner_clear : LK M_Runner_clear 0 := ⟨⟨tb2_in (i := 164) rfl, rfl⟩, ⟨tb1_in (i := 13) rfl, rfl⟩, ⟨by decide, by decide⟩, by decide +kernel, rfl, by decide⟩
theorem v_Runner_clear : gd (.instanceMethod (my M_Runner_clear)) := ⟨tb2_in (i := 162) rfl, rfl⟩
theorem s_Runner_clear : gd (.selects "SuperDriver$Runner" (my M_Runner_clear) (my M_Runner_clear)) := ⟨tb2_in (i := 163) rfl, rfl⟩
theorem k_Runner_constructorAt : LK M_Runner_constructorAt 1 := ⟨⟨tb2_in (i := 228) rfl, rfl⟩, ⟨tb1_in (i := 13) rfl, rfl⟩, ⟨by decide, by decide⟩, by decide +kernel, rfl, by decide⟩
theorem v_Runner_constructorAt : gd (.instanceMethod (my M_Runner_constructorAt)) := ⟨tb2_in (i := 226) rfl, rfl⟩
theorem s_Runner_constructorAt : gd (.selects "SuperDriver$Runner" (my M_Runner_constructorAt) (my M_Runner_constructorAt)) := ⟨tb2_in (i := 227) rfl, rfl⟩
theorem k_Runner_go : LK M_Runner_go 2 := ⟨⟨tb5_in (i := 14) rfl, rfl⟩, ⟨tb1_in (i := 13) rfl, rfl⟩, ⟨by decide, by decide⟩, by decide +kernel, rfl, by decide⟩
theorem v_Runner_go : gd (.instanceMethod (my M_Runner_go)) := ⟨tb5_in (i := 12) rfl, rfl⟩
theorem s_Runner_go : gd (.selects "SuperDriver$Runner" (my M_Runner_go) (my M_Runner_go)) := ⟨tb5_in (i := 13) rfl, rfl⟩
theorem k_Runner_judge : LK M_Runner_judge 3 := ⟨⟨tb5_in (i := 19) rfl, rfl⟩, ⟨tb1_in (i := 13) rfl, rfl⟩, ⟨by decide, by decide⟩, by decide +kernel, rfl, by decide⟩
theorem v_Runner_judge : gd (.instanceMethod (my M_Runner_judge)) := ⟨tb5_in (i := 18) rfl, rfl⟩
theorem s_Runner_judge : gd (.selects "SuperDriver$Runner" (my M_Runner_judge) (my M_Runner_judge)) := ⟨pv_in (i := 21) rfl, rfl⟩
theorem k_Runner_stepsMade : LK M_Runner_stepsMade 0 := ⟨⟨tb2_in (i := 239) rfl, rfl⟩, ⟨tb1_in (i := 13) rfl, rfl⟩, ⟨by decide, by decide⟩, by decide +kernel, rfl, by decide⟩
theorem v_Runner_stepsMade : gd (.instanceMethod (my M_Runner_stepsMade)) := ⟨tb2_in (i := 237) rfl, rfl⟩
theorem s_Runner_stepsMade : gd (.selects "SuperDriver$Runner" (my M_Runner_stepsMade) (my M_Runner_stepsMade)) := ⟨tb2_in (i := 238) rfl, rfl⟩
theorem k_Signs_init : LK M_Signs_init 0 := ⟨⟨tb1_in (i := 78) rfl, rfl⟩, ⟨tb1_in (i := 5) rfl, rfl⟩, ⟨by decide, by decide⟩, by decide +kernel, rfl, by decide⟩
theorem v_Signs_init : gd (.instanceMethod (my M_Signs_init)) := ⟨tb1_in (i := 77) rfl, rfl⟩
theorem k_Signs_behind : LK M_Signs_behind 2 := ⟨⟨tb3_in (i := 216) rfl, rfl⟩, ⟨tb1_in (i := 5) rfl, rfl⟩, ⟨by decide, by decide⟩, by decide +kernel, rfl, by decide⟩
theorem v_Signs_behind : gd (.instanceMethod (my M_Signs_behind)) := ⟨tb3_in (i := 214) rfl, rfl⟩
theorem s_Signs_behind : gd (.selects "SuperDriver$Signs" (my M_Signs_behind) (my M_Signs_behind)) := ⟨tb3_in (i := 215) rfl, rfl⟩
theorem k_Signs_couples : LK M_Signs_couples 4 := ⟨⟨tb4_in (i := 48) rfl, rfl⟩, ⟨tb1_in (i := 5) rfl, rfl⟩, ⟨by decide, by decide⟩, by decide +kernel, rfl, by decide⟩
theorem v_Signs_couples : gd (.instanceMethod (my M_Signs_couples)) := ⟨tb4_in (i := 47) rfl, rfl⟩
theorem s_Signs_couples : gd (.selects "SuperDriver$Signs" (my M_Signs_couples) (my M_Signs_couples)) := ⟨pv_in (i := 6) rfl, rfl⟩
theorem k_Signs_embeddedInParts : LK M_Signs_embeddedInParts 2 := ⟨⟨tb4_in (i := 44) rfl, rfl⟩, ⟨tb1_in (i := 5) rfl, rfl⟩, ⟨by decide, by decide⟩, by decide +kernel, rfl, by decide⟩
theorem v_Signs_embeddedInParts : gd (.instanceMethod (my M_Signs_embeddedInParts)) := ⟨tb4_in (i := 43) rfl, rfl⟩
theorem s_Signs_embeddedInParts : gd (.selects "SuperDriver$Signs" (my M_Signs_embeddedInParts) (my M_Signs_embeddedInParts)) := ⟨pv_in (i := 5) rfl, rfl⟩
theorem k_Signs_findEnds : LK M_Signs_findEnds 2 := ⟨⟨tb4_in (i := 39) rfl, rfl⟩, ⟨tb1_in (i := 5) rfl, rfl⟩, ⟨by decide, by decide⟩, by decide +kernel, rfl, by decide⟩
theorem v_Signs_findEnds : gd (.instanceMethod (my M_Signs_findEnds)) := ⟨tb4_in (i := 38) rfl, rfl⟩
theorem s_Signs_findEnds : gd (.selects "SuperDriver$Signs" (my M_Signs_findEnds) (my M_Signs_findEnds)) := ⟨pv_in (i := 4) rfl, rfl⟩
theorem k_Signs_isCased : LK M_Signs_isCased 1 := ⟨⟨tb3_in (i := 117) rfl, rfl⟩, ⟨tb1_in (i := 5) rfl, rfl⟩, ⟨by decide, by decide⟩, by decide +kernel, rfl, by decide⟩
theorem v_Signs_isCased : gd (.instanceMethod (my M_Signs_isCased)) := ⟨tb3_in (i := 115) rfl, rfl⟩
theorem s_Signs_isCased : gd (.selects "SuperDriver$Signs" (my M_Signs_isCased) (my M_Signs_isCased)) := ⟨tb3_in (i := 116) rfl, rfl⟩
theorem k_Signs_isEmbedded : LK M_Signs_isEmbedded 2 := ⟨⟨tb4_in (i := 34) rfl, rfl⟩, ⟨tb1_in (i := 5) rfl, rfl⟩, ⟨by decide, by decide⟩, by decide +kernel, rfl, by decide⟩
theorem v_Signs_isEmbedded : gd (.instanceMethod (my M_Signs_isEmbedded)) := ⟨tb4_in (i := 32) rfl, rfl⟩
theorem s_Signs_isEmbedded : gd (.selects "SuperDriver$Signs" (my M_Signs_isEmbedded) (my M_Signs_isEmbedded)) := ⟨tb4_in (i := 33) rfl, rfl⟩
theorem k_Signs_isMarked : LK M_Signs_isMarked 2 := ⟨⟨tb4_in (i := 53) rfl, rfl⟩, ⟨tb1_in (i := 5) rfl, rfl⟩, ⟨by decide, by decide⟩, by decide +kernel, rfl, by decide⟩
theorem v_Signs_isMarked : gd (.instanceMethod (my M_Signs_isMarked)) := ⟨tb4_in (i := 52) rfl, rfl⟩
theorem s_Signs_isMarked : gd (.selects "SuperDriver$Signs" (my M_Signs_isMarked) (my M_Signs_isMarked)) := ⟨pv_in (i := 7) rfl, rfl⟩
theorem k_Signs_isTerm : LK M_Signs_isTerm 1 := ⟨⟨tb2_in (i := 184) rfl, rfl⟩, ⟨tb1_in (i := 5) rfl, rfl⟩, ⟨by decide, by decide⟩, by decide +kernel, rfl, by decide⟩
theorem v_Signs_isTerm : gd (.instanceMethod (my M_Signs_isTerm)) := ⟨tb2_in (i := 182) rfl, rfl⟩
theorem s_Signs_isTerm : gd (.selects "SuperDriver$Signs" (my M_Signs_isTerm) (my M_Signs_isTerm)) := ⟨tb2_in (i := 183) rfl, rfl⟩
theorem k_Signs_isValue : LK M_Signs_isValue 1 := ⟨⟨tb2_in (i := 172) rfl, rfl⟩, ⟨tb1_in (i := 5) rfl, rfl⟩, ⟨by decide, by decide⟩, by decide +kernel, rfl, by decide⟩
theorem v_Signs_isValue : gd (.instanceMethod (my M_Signs_isValue)) := ⟨tb2_in (i := 170) rfl, rfl⟩
theorem s_Signs_isValue : gd (.selects "SuperDriver$Signs" (my M_Signs_isValue) (my M_Signs_isValue)) := ⟨tb2_in (i := 171) rfl, rfl⟩
theorem k_Signs_nextCall : LK M_Signs_nextCall 1 := ⟨⟨tb3_in (i := 220) rfl, rfl⟩, ⟨tb1_in (i := 5) rfl, rfl⟩, ⟨by decide, by decide⟩, by decide +kernel, rfl, by decide⟩
theorem v_Signs_nextCall : gd (.instanceMethod (my M_Signs_nextCall)) := ⟨tb3_in (i := 218) rfl, rfl⟩
theorem s_Signs_nextCall : gd (.selects "SuperDriver$Signs" (my M_Signs_nextCall) (my M_Signs_nextCall)) := ⟨tb3_in (i := 219) rfl, rfl⟩
theorem k_Signs_partsOf : LK M_Signs_partsOf 1 := ⟨⟨tb2_in (i := 188) rfl, rfl⟩, ⟨tb1_in (i := 5) rfl, rfl⟩, ⟨by decide, by decide⟩, by decide +kernel, rfl, by decide⟩
theorem v_Signs_partsOf : gd (.instanceMethod (my M_Signs_partsOf)) := ⟨tb2_in (i := 186) rfl, rfl⟩
theorem s_Signs_partsOf : gd (.selects "SuperDriver$Signs" (my M_Signs_partsOf) (my M_Signs_partsOf)) := ⟨tb2_in (i := 187) rfl, rfl⟩
theorem k_Signs_shape : LK M_Signs_shape 3 := ⟨⟨tb2_in (i := 152) rfl, rfl⟩, ⟨tb1_in (i := 5) rfl, rfl⟩, ⟨by decide, by decide⟩, by decide +kernel, rfl, by decide⟩
theorem v_Signs_shape : gd (.instanceMethod (my M_Signs_shape)) := ⟨tb2_in (i := 150) rfl, rfl⟩
theorem s_Signs_shape : gd (.selects "SuperDriver$Signs" (my M_Signs_shape) (my M_Signs_shape)) := ⟨tb2_in (i := 151) rfl, rfl⟩
theorem k_SourceProgram_init : LK M_SourceProgram_init 2 := ⟨⟨tb1_in (i := 104) rfl, rfl⟩, ⟨tb1_in (i := 7) rfl, rfl⟩, ⟨by decide, by decide⟩, by decide +kernel, rfl, by decide⟩
theorem v_SourceProgram_init : gd (.instanceMethod (my M_SourceProgram_init)) := ⟨tb1_in (i := 103) rfl, rfl⟩
theorem k_SourceProgram_bodyOf : LK M_SourceProgram_bodyOf 2 := ⟨⟨tb4_in (i := 7) rfl, rfl⟩, ⟨tb1_in (i := 7) rfl, rfl⟩, ⟨by decide, by decide⟩, by decide +kernel, rfl, by decide⟩
theorem v_SourceProgram_bodyOf : gd (.instanceMethod (my M_SourceProgram_bodyOf)) := ⟨tb4_in (i := 6) rfl, rfl⟩
theorem k_SourceProgram_clear : LK M_SourceProgram_clear 0 := ⟨⟨tb2_in (i := 148) rfl, rfl⟩, ⟨tb1_in (i := 7) rfl, rfl⟩, ⟨by decide, by decide⟩, by decide +kernel, rfl, by decide⟩
theorem v_SourceProgram_clear : gd (.instanceMethod (my M_SourceProgram_clear)) := ⟨tb2_in (i := 146) rfl, rfl⟩
theorem s_SourceProgram_clear : gd (.selects "SuperDriver$SourceProgram" (my M_SourceProgram_clear) (my M_SourceProgram_clear)) := ⟨tb2_in (i := 147) rfl, rfl⟩
theorem k_SourceProgram_declare : LK M_SourceProgram_declare 3 := ⟨⟨tb3_in (i := 101) rfl, rfl⟩, ⟨tb1_in (i := 7) rfl, rfl⟩, ⟨by decide, by decide⟩, by decide +kernel, rfl, by decide⟩
theorem v_SourceProgram_declare : gd (.instanceMethod (my M_SourceProgram_declare)) := ⟨tb3_in (i := 99) rfl, rfl⟩
theorem s_SourceProgram_declare : gd (.selects "SuperDriver$SourceProgram" (my M_SourceProgram_declare) (my M_SourceProgram_declare)) := ⟨tb3_in (i := 100) rfl, rfl⟩
theorem k_SourceProgram_define : LK M_SourceProgram_define 3 := ⟨⟨tb3_in (i := 132) rfl, rfl⟩, ⟨tb1_in (i := 7) rfl, rfl⟩, ⟨by decide, by decide⟩, by decide +kernel, rfl, by decide⟩
theorem v_SourceProgram_define : gd (.instanceMethod (my M_SourceProgram_define)) := ⟨tb3_in (i := 130) rfl, rfl⟩
theorem s_SourceProgram_define : gd (.selects "SuperDriver$SourceProgram" (my M_SourceProgram_define) (my M_SourceProgram_define)) := ⟨tb3_in (i := 131) rfl, rfl⟩
theorem k_SourceProgram_isDeclared : LK M_SourceProgram_isDeclared 1 := ⟨⟨tb3_in (i := 80) rfl, rfl⟩, ⟨tb1_in (i := 7) rfl, rfl⟩, ⟨by decide, by decide⟩, by decide +kernel, rfl, by decide⟩
theorem v_SourceProgram_isDeclared : gd (.instanceMethod (my M_SourceProgram_isDeclared)) := ⟨tb3_in (i := 78) rfl, rfl⟩
theorem s_SourceProgram_isDeclared : gd (.selects "SuperDriver$SourceProgram" (my M_SourceProgram_isDeclared) (my M_SourceProgram_isDeclared)) := ⟨tb3_in (i := 79) rfl, rfl⟩
theorem k_SourceProgram_mayHave : LK M_SourceProgram_mayHave 3 := ⟨⟨tb3_in (i := 113) rfl, rfl⟩, ⟨tb1_in (i := 7) rfl, rfl⟩, ⟨by decide, by decide⟩, by decide +kernel, rfl, by decide⟩
theorem v_SourceProgram_mayHave : gd (.instanceMethod (my M_SourceProgram_mayHave)) := ⟨tb3_in (i := 111) rfl, rfl⟩
theorem s_SourceProgram_mayHave : gd (.selects "SuperDriver$SourceProgram" (my M_SourceProgram_mayHave) (my M_SourceProgram_mayHave)) := ⟨tb3_in (i := 112) rfl, rfl⟩
theorem k_SourceProgram_placeOf : LK M_SourceProgram_placeOf 2 := ⟨⟨tb3_in (i := 136) rfl, rfl⟩, ⟨tb1_in (i := 7) rfl, rfl⟩, ⟨by decide, by decide⟩, by decide +kernel, rfl, by decide⟩
theorem v_SourceProgram_placeOf : gd (.instanceMethod (my M_SourceProgram_placeOf)) := ⟨tb3_in (i := 135) rfl, rfl⟩
theorem s_SourceProgram_placeOf : gd (.selects "SuperDriver$SourceProgram" (my M_SourceProgram_placeOf) (my M_SourceProgram_placeOf)) := ⟨pv_in (i := 1) rfl, rfl⟩
theorem k_SourceProgram_variableOf : LK M_SourceProgram_variableOf 3 := ⟨⟨tb4_in (i := 137) rfl, rfl⟩, ⟨tb1_in (i := 7) rfl, rfl⟩, ⟨by decide, by decide⟩, by decide +kernel, rfl, by decide⟩
theorem v_SourceProgram_variableOf : gd (.instanceMethod (my M_SourceProgram_variableOf)) := ⟨tb4_in (i := 136) rfl, rfl⟩
theorem k_Substitution_init : LK M_Substitution_init 0 := ⟨⟨tb1_in (i := 55) rfl, rfl⟩, ⟨tb1_in (i := 4) rfl, rfl⟩, ⟨by decide, by decide⟩, by decide +kernel, rfl, by decide⟩
theorem v_Substitution_init : gd (.instanceMethod (my M_Substitution_init)) := ⟨tb1_in (i := 54) rfl, rfl⟩
theorem k_Substitution_apply : LK M_Substitution_apply 2 := ⟨⟨tb4_in (i := 148) rfl, rfl⟩, ⟨tb1_in (i := 4) rfl, rfl⟩, ⟨by decide, by decide⟩, by decide +kernel, rfl, by decide⟩
theorem v_Substitution_apply : gd (.instanceMethod (my M_Substitution_apply)) := ⟨tb4_in (i := 146) rfl, rfl⟩
theorem s_Substitution_apply : gd (.selects "SuperDriver$Substitution" (my M_Substitution_apply) (my M_Substitution_apply)) := ⟨tb4_in (i := 147) rfl, rfl⟩
theorem k_Substitution_begin : LK M_Substitution_begin 0 := ⟨⟨tb4_in (i := 125) rfl, rfl⟩, ⟨tb1_in (i := 4) rfl, rfl⟩, ⟨by decide, by decide⟩, by decide +kernel, rfl, by decide⟩
theorem v_Substitution_begin : gd (.instanceMethod (my M_Substitution_begin)) := ⟨tb4_in (i := 123) rfl, rfl⟩
theorem s_Substitution_begin : gd (.selects "SuperDriver$Substitution" (my M_Substitution_begin) (my M_Substitution_begin)) := ⟨tb4_in (i := 124) rfl, rfl⟩
theorem k_Substitution_bind : LK M_Substitution_bind 4 := ⟨⟨tb4_in (i := 141) rfl, rfl⟩, ⟨tb1_in (i := 4) rfl, rfl⟩, ⟨by decide, by decide⟩, by decide +kernel, rfl, by decide⟩
theorem v_Substitution_bind : gd (.instanceMethod (my M_Substitution_bind)) := ⟨tb4_in (i := 139) rfl, rfl⟩
theorem s_Substitution_bind : gd (.selects "SuperDriver$Substitution" (my M_Substitution_bind) (my M_Substitution_bind)) := ⟨tb4_in (i := 140) rfl, rfl⟩
theorem k_Tree_init : LK M_Tree_init 0 := ⟨⟨tb1_in (i := 131) rfl, rfl⟩, ⟨tb1_in (i := 8) rfl, rfl⟩, ⟨by decide, by decide⟩, by decide +kernel, rfl, by decide⟩
theorem v_Tree_init : gd (.instanceMethod (my M_Tree_init)) := ⟨tb1_in (i := 130) rfl, rfl⟩
theorem k_Tree_add : LK M_Tree_add 4 := ⟨⟨tb3_in (i := 169) rfl, rfl⟩, ⟨tb1_in (i := 8) rfl, rfl⟩, ⟨by decide, by decide⟩, by decide +kernel, rfl, by decide⟩
theorem v_Tree_add : gd (.instanceMethod (my M_Tree_add)) := ⟨tb3_in (i := 167) rfl, rfl⟩
theorem s_Tree_add : gd (.selects "SuperDriver$Tree" (my M_Tree_add) (my M_Tree_add)) := ⟨tb3_in (i := 168) rfl, rfl⟩
theorem k_Tree_clear : LK M_Tree_clear 0 := ⟨⟨tb2_in (i := 160) rfl, rfl⟩, ⟨tb1_in (i := 8) rfl, rfl⟩, ⟨by decide, by decide⟩, by decide +kernel, rfl, by decide⟩
theorem v_Tree_clear : gd (.instanceMethod (my M_Tree_clear)) := ⟨tb2_in (i := 158) rfl, rfl⟩
theorem s_Tree_clear : gd (.selects "SuperDriver$Tree" (my M_Tree_clear) (my M_Tree_clear)) := ⟨tb2_in (i := 159) rfl, rfl⟩
theorem k_Tree_count : LK M_Tree_count 0 := ⟨⟨tb3_in (i := 195) rfl, rfl⟩, ⟨tb1_in (i := 8) rfl, rfl⟩, ⟨by decide, by decide⟩, by decide +kernel, rfl, by decide⟩
theorem v_Tree_count : gd (.instanceMethod (my M_Tree_count)) := ⟨tb3_in (i := 193) rfl, rfl⟩
theorem s_Tree_count : gd (.selects "SuperDriver$Tree" (my M_Tree_count) (my M_Tree_count)) := ⟨tb3_in (i := 194) rfl, rfl⟩
theorem k_Tree_get : LK M_Tree_get 1 := ⟨⟨tb2_in (i := 211) rfl, rfl⟩, ⟨tb1_in (i := 8) rfl, rfl⟩, ⟨by decide, by decide⟩, by decide +kernel, rfl, by decide⟩
theorem v_Tree_get : gd (.instanceMethod (my M_Tree_get)) := ⟨tb2_in (i := 209) rfl, rfl⟩
theorem s_Tree_get : gd (.selects "SuperDriver$Tree" (my M_Tree_get) (my M_Tree_get)) := ⟨tb2_in (i := 210) rfl, rfl⟩
theorem k_Tree_isTooGreat : LK M_Tree_isTooGreat 0 := ⟨⟨tb3_in (i := 204) rfl, rfl⟩, ⟨tb1_in (i := 8) rfl, rfl⟩, ⟨by decide, by decide⟩, by decide +kernel, rfl, by decide⟩
theorem v_Tree_isTooGreat : gd (.instanceMethod (my M_Tree_isTooGreat)) := ⟨tb3_in (i := 202) rfl, rfl⟩
theorem s_Tree_isTooGreat : gd (.selects "SuperDriver$Tree" (my M_Tree_isTooGreat) (my M_Tree_isTooGreat)) := ⟨tb3_in (i := 203) rfl, rfl⟩
theorem k_Tree_newVariable : LK M_Tree_newVariable 0 := ⟨⟨tb4_in (i := 77) rfl, rfl⟩, ⟨tb1_in (i := 8) rfl, rfl⟩, ⟨by decide, by decide⟩, by decide +kernel, rfl, by decide⟩
theorem v_Tree_newVariable : gd (.instanceMethod (my M_Tree_newVariable)) := ⟨tb4_in (i := 75) rfl, rfl⟩
theorem s_Tree_newVariable : gd (.selects "SuperDriver$Tree" (my M_Tree_newVariable) (my M_Tree_newVariable)) := ⟨tb4_in (i := 76) rfl, rfl⟩
theorem k_Tree_removeBelow : LK M_Tree_removeBelow 1 := ⟨⟨tb4_in (i := 102) rfl, rfl⟩, ⟨tb1_in (i := 8) rfl, rfl⟩, ⟨by decide, by decide⟩, by decide +kernel, rfl, by decide⟩
theorem v_Tree_removeBelow : gd (.instanceMethod (my M_Tree_removeBelow)) := ⟨tb4_in (i := 100) rfl, rfl⟩
theorem s_Tree_removeBelow : gd (.selects "SuperDriver$Tree" (my M_Tree_removeBelow) (my M_Tree_removeBelow)) := ⟨tb4_in (i := 101) rfl, rfl⟩
theorem k_Mo_init : LK M_Mo_init 0 := ⟨⟨tb5_in (i := 27) rfl, rfl⟩, ⟨tb1_in (i := 14) rfl, rfl⟩, ⟨by decide, by decide⟩, by decide +kernel, rfl, by decide⟩
theorem v_Mo_init : gd (.instanceMethod (my M_Mo_init)) := ⟨tb5_in (i := 26) rfl, rfl⟩
theorem k_Mo_add : LK M_Mo_add 4 := ⟨⟨tb5_in (i := 233) rfl, rfl⟩, ⟨tb1_in (i := 14) rfl, rfl⟩, ⟨by decide, by decide⟩, by decide +kernel, rfl, by decide⟩
theorem v_Mo_add : gd (.instanceMethod (my M_Mo_add)) := ⟨tb5_in (i := 232) rfl, rfl⟩
theorem s_Mo_add : gd (.selects "SuperDriverModel" (my M_Mo_add) (my M_Mo_add)) := ⟨pv_in (i := 26) rfl, rfl⟩
theorem k_Mo_alike : LK M_Mo_alike 5 := ⟨⟨tb6_in (i := 61) rfl, rfl⟩, ⟨tb1_in (i := 14) rfl, rfl⟩, ⟨by decide, by decide⟩, by decide +kernel, rfl, by decide⟩
theorem v_Mo_alike : gd (.instanceMethod (my M_Mo_alike)) := ⟨tb6_in (i := 60) rfl, rfl⟩
theorem s_Mo_alike : gd (.selects "SuperDriverModel" (my M_Mo_alike) (my M_Mo_alike)) := ⟨pv_in (i := 43) rfl, rfl⟩
theorem k_Mo_areParts : LK M_Mo_areParts 5 := ⟨⟨tb6_in (i := 37) rfl, rfl⟩, ⟨tb1_in (i := 14) rfl, rfl⟩, ⟨by decide, by decide⟩, by decide +kernel, rfl, by decide⟩
theorem v_Mo_areParts : gd (.instanceMethod (my M_Mo_areParts)) := ⟨tb6_in (i := 36) rfl, rfl⟩
theorem s_Mo_areParts : gd (.selects "SuperDriverModel" (my M_Mo_areParts) (my M_Mo_areParts)) := ⟨pv_in (i := 37) rfl, rfl⟩
theorem k_Mo_becomes : LK M_Mo_becomes 2 := ⟨⟨tb6_in (i := 1) rfl, rfl⟩, ⟨tb1_in (i := 14) rfl, rfl⟩, ⟨by decide, by decide⟩, by decide +kernel, rfl, by decide⟩
theorem v_Mo_becomes : gd (.instanceMethod (my M_Mo_becomes)) := ⟨tb6_in (i := 0) rfl, rfl⟩
theorem s_Mo_becomes : gd (.selects "SuperDriverModel" (my M_Mo_becomes) (my M_Mo_becomes)) := ⟨pv_in (i := 28) rfl, rfl⟩
theorem k_Mo_begin : LK M_Mo_begin 1 := ⟨⟨tb6_in (i := 141) rfl, rfl⟩, ⟨tb1_in (i := 14) rfl, rfl⟩, ⟨by decide, by decide⟩, by decide +kernel, rfl, by decide⟩
theorem v_Mo_begin : gd (.instanceMethod (my M_Mo_begin)) := ⟨tb6_in (i := 140) rfl, rfl⟩
theorem s_Mo_begin : gd (.selects "SuperDriverModel" (my M_Mo_begin) (my M_Mo_begin)) := ⟨pv_in (i := 59) rfl, rfl⟩
theorem k_Mo_bind : LK M_Mo_bind 2 := ⟨⟨tb6_in (i := 77) rfl, rfl⟩, ⟨tb1_in (i := 14) rfl, rfl⟩, ⟨by decide, by decide⟩, by decide +kernel, rfl, by decide⟩
theorem v_Mo_bind : gd (.instanceMethod (my M_Mo_bind)) := ⟨tb6_in (i := 76) rfl, rfl⟩
theorem s_Mo_bind : gd (.selects "SuperDriverModel" (my M_Mo_bind) (my M_Mo_bind)) := ⟨pv_in (i := 47) rfl, rfl⟩
theorem k_Mo_body : LK M_Mo_body 2 := ⟨⟨tb5_in (i := 202) rfl, rfl⟩, ⟨tb1_in (i := 14) rfl, rfl⟩, ⟨by decide, by decide⟩, by decide +kernel, rfl, by decide⟩
theorem v_Mo_body : gd (.instanceMethod (my M_Mo_body)) := ⟨tb5_in (i := 200) rfl, rfl⟩
theorem s_Mo_body : gd (.selects "SuperDriverModel" (my M_Mo_body) (my M_Mo_body)) := ⟨tb5_in (i := 201) rfl, rfl⟩
theorem k_Mo_bodyOf : LK M_Mo_bodyOf 1 := ⟨⟨tb6_in (i := 25) rfl, rfl⟩, ⟨tb1_in (i := 14) rfl, rfl⟩, ⟨by decide, by decide⟩, by decide +kernel, rfl, by decide⟩
theorem v_Mo_bodyOf : gd (.instanceMethod (my M_Mo_bodyOf)) := ⟨tb6_in (i := 24) rfl, rfl⟩
theorem s_Mo_bodyOf : gd (.selects "SuperDriverModel" (my M_Mo_bodyOf) (my M_Mo_bodyOf)) := ⟨pv_in (i := 34) rfl, rfl⟩
theorem k_Mo_build : LK M_Mo_build 1 := ⟨⟨tb6_in (i := 5) rfl, rfl⟩, ⟨tb1_in (i := 14) rfl, rfl⟩, ⟨by decide, by decide⟩, by decide +kernel, rfl, by decide⟩
theorem v_Mo_build : gd (.instanceMethod (my M_Mo_build)) := ⟨tb6_in (i := 4) rfl, rfl⟩
theorem s_Mo_build : gd (.selects "SuperDriverModel" (my M_Mo_build) (my M_Mo_build)) := ⟨pv_in (i := 29) rfl, rfl⟩
theorem k_Mo_builtOf : LK M_Mo_builtOf 1 := ⟨⟨tb5_in (i := 205) rfl, rfl⟩, ⟨tb1_in (i := 14) rfl, rfl⟩, ⟨by decide, by decide⟩, by decide +kernel, rfl, by decide⟩
theorem z_Mo_builtOf : gd (.static (my M_Mo_builtOf)) := ⟨tb5_in (i := 204) rfl, rfl⟩
theorem k_Mo_differ : LK M_Mo_differ 3 := ⟨⟨tb6_in (i := 57) rfl, rfl⟩, ⟨tb1_in (i := 14) rfl, rfl⟩, ⟨by decide, by decide⟩, by decide +kernel, rfl, by decide⟩
theorem v_Mo_differ : gd (.instanceMethod (my M_Mo_differ)) := ⟨tb6_in (i := 56) rfl, rfl⟩
theorem s_Mo_differ : gd (.selects "SuperDriverModel" (my M_Mo_differ) (my M_Mo_differ)) := ⟨pv_in (i := 42) rfl, rfl⟩
theorem k_Mo_drive : LK M_Mo_drive 0 := ⟨⟨tb5_in (i := 229) rfl, rfl⟩, ⟨tb1_in (i := 14) rfl, rfl⟩, ⟨by decide, by decide⟩, by decide +kernel, rfl, by decide⟩
theorem v_Mo_drive : gd (.instanceMethod (my M_Mo_drive)) := ⟨tb5_in (i := 227) rfl, rfl⟩
theorem s_Mo_drive : gd (.selects "SuperDriverModel" (my M_Mo_drive) (my M_Mo_drive)) := ⟨tb5_in (i := 228) rfl, rfl⟩
theorem k_Mo_end : LK M_Mo_end 2 := ⟨⟨tb6_in (i := 9) rfl, rfl⟩, ⟨tb1_in (i := 14) rfl, rfl⟩, ⟨by decide, by decide⟩, by decide +kernel, rfl, by decide⟩
theorem v_Mo_end : gd (.instanceMethod (my M_Mo_end)) := ⟨tb6_in (i := 8) rfl, rfl⟩
theorem s_Mo_end : gd (.selects "SuperDriverModel" (my M_Mo_end) (my M_Mo_end)) := ⟨pv_in (i := 30) rfl, rfl⟩
theorem k_Mo_findFunctions : LK M_Mo_findFunctions 0 := ⟨⟨tb6_in (i := 93) rfl, rfl⟩, ⟨tb1_in (i := 14) rfl, rfl⟩, ⟨by decide, by decide⟩, by decide +kernel, rfl, by decide⟩
theorem v_Mo_findFunctions : gd (.instanceMethod (my M_Mo_findFunctions)) := ⟨tb6_in (i := 92) rfl, rfl⟩
theorem s_Mo_findFunctions : gd (.selects "SuperDriverModel" (my M_Mo_findFunctions) (my M_Mo_findFunctions)) := ⟨pv_in (i := 51) rfl, rfl⟩
theorem k_Mo_forget : LK M_Mo_forget 0 := ⟨⟨tb5_in (i := 190) rfl, rfl⟩, ⟨tb1_in (i := 14) rfl, rfl⟩, ⟨by decide, by decide⟩, by decide +kernel, rfl, by decide⟩
theorem v_Mo_forget : gd (.instanceMethod (my M_Mo_forget)) := ⟨tb5_in (i := 188) rfl, rfl⟩
theorem s_Mo_forget : gd (.selects "SuperDriverModel" (my M_Mo_forget) (my M_Mo_forget)) := ⟨tb5_in (i := 189) rfl, rfl⟩
theorem k_Mo_function : LK M_Mo_function 3 := ⟨⟨tb5_in (i := 194) rfl, rfl⟩, ⟨tb1_in (i := 14) rfl, rfl⟩, ⟨by decide, by decide⟩, by decide +kernel, rfl, by decide⟩
theorem v_Mo_function : gd (.instanceMethod (my M_Mo_function)) := ⟨tb5_in (i := 192) rfl, rfl⟩
theorem s_Mo_function : gd (.selects "SuperDriverModel" (my M_Mo_function) (my M_Mo_function)) := ⟨tb5_in (i := 193) rfl, rfl⟩
theorem k_Mo_generalise : LK M_Mo_generalise 2 := ⟨⟨tb6_in (i := 49) rfl, rfl⟩, ⟨tb1_in (i := 14) rfl, rfl⟩, ⟨by decide, by decide⟩, by decide +kernel, rfl, by decide⟩
theorem v_Mo_generalise : gd (.instanceMethod (my M_Mo_generalise)) := ⟨tb6_in (i := 48) rfl, rfl⟩
theorem s_Mo_generalise : gd (.selects "SuperDriverModel" (my M_Mo_generalise) (my M_Mo_generalise)) := ⟨pv_in (i := 40) rfl, rfl⟩
theorem k_Mo_goBelow : LK M_Mo_goBelow 1 := ⟨⟨tb6_in (i := 65) rfl, rfl⟩, ⟨tb1_in (i := 14) rfl, rfl⟩, ⟨by decide, by decide⟩, by decide +kernel, rfl, by decide⟩
theorem v_Mo_goBelow : gd (.instanceMethod (my M_Mo_goBelow)) := ⟨tb6_in (i := 64) rfl, rfl⟩
theorem s_Mo_goBelow : gd (.selects "SuperDriverModel" (my M_Mo_goBelow) (my M_Mo_goBelow)) := ⟨pv_in (i := 44) rfl, rfl⟩
theorem k_Mo_goal : LK M_Mo_goal 0 := ⟨⟨tb5_in (i := 221) rfl, rfl⟩, ⟨tb1_in (i := 14) rfl, rfl⟩, ⟨by decide, by decide⟩, by decide +kernel, rfl, by decide⟩
theorem v_Mo_goal : gd (.instanceMethod (my M_Mo_goal)) := ⟨tb5_in (i := 219) rfl, rfl⟩
theorem s_Mo_goal : gd (.selects "SuperDriverModel" (my M_Mo_goal) (my M_Mo_goal)) := ⟨tb5_in (i := 220) rfl, rfl⟩
theorem k_Mo_hasInputs : LK M_Mo_hasInputs 0 := ⟨⟨tb6_in (i := 137) rfl, rfl⟩, ⟨tb1_in (i := 14) rfl, rfl⟩, ⟨by decide, by decide⟩, by decide +kernel, rfl, by decide⟩
theorem v_Mo_hasInputs : gd (.instanceMethod (my M_Mo_hasInputs)) := ⟨tb6_in (i := 136) rfl, rfl⟩
theorem s_Mo_hasInputs : gd (.selects "SuperDriverModel" (my M_Mo_hasInputs) (my M_Mo_hasInputs)) := ⟨pv_in (i := 58) rfl, rfl⟩
theorem k_Mo_hold : LK M_Mo_hold 2 := ⟨⟨tb6_in (i := 97) rfl, rfl⟩, ⟨tb1_in (i := 14) rfl, rfl⟩, ⟨by decide, by decide⟩, by decide +kernel, rfl, by decide⟩
theorem v_Mo_hold : gd (.instanceMethod (my M_Mo_hold)) := ⟨tb6_in (i := 96) rfl, rfl⟩
theorem s_Mo_hold : gd (.selects "SuperDriverModel" (my M_Mo_hold) (my M_Mo_hold)) := ⟨pv_in (i := 52) rfl, rfl⟩
theorem k_Mo_input : LK M_Mo_input 1 := ⟨⟨tb5_in (i := 225) rfl, rfl⟩, ⟨tb1_in (i := 14) rfl, rfl⟩, ⟨by decide, by decide⟩, by decide +kernel, rfl, by decide⟩
theorem v_Mo_input : gd (.instanceMethod (my M_Mo_input)) := ⟨tb5_in (i := 223) rfl, rfl⟩
theorem s_Mo_input : gd (.selects "SuperDriverModel" (my M_Mo_input) (my M_Mo_input)) := ⟨tb5_in (i := 224) rfl, rfl⟩
theorem k_Mo_isCased : LK M_Mo_isCased 1 := ⟨⟨tb6_in (i := 21) rfl, rfl⟩, ⟨tb1_in (i := 14) rfl, rfl⟩, ⟨by decide, by decide⟩, by decide +kernel, rfl, by decide⟩
theorem v_Mo_isCased : gd (.instanceMethod (my M_Mo_isCased)) := ⟨tb6_in (i := 20) rfl, rfl⟩
theorem s_Mo_isCased : gd (.selects "SuperDriverModel" (my M_Mo_isCased) (my M_Mo_isCased)) := ⟨pv_in (i := 33) rfl, rfl⟩
theorem k_Mo_isEmbedded : LK M_Mo_isEmbedded 2 := ⟨⟨tb6_in (i := 33) rfl, rfl⟩, ⟨tb1_in (i := 14) rfl, rfl⟩, ⟨by decide, by decide⟩, by decide +kernel, rfl, by decide⟩
theorem v_Mo_isEmbedded : gd (.instanceMethod (my M_Mo_isEmbedded)) := ⟨tb6_in (i := 32) rfl, rfl⟩
theorem s_Mo_isEmbedded : gd (.selects "SuperDriverModel" (my M_Mo_isEmbedded) (my M_Mo_isEmbedded)) := ⟨pv_in (i := 36) rfl, rfl⟩
theorem k_Mo_isNode : LK M_Mo_isNode 1 := ⟨⟨tb6_in (i := 121) rfl, rfl⟩, ⟨tb1_in (i := 14) rfl, rfl⟩, ⟨by decide, by decide⟩, by decide +kernel, rfl, by decide⟩
theorem v_Mo_isNode : gd (.instanceMethod (my M_Mo_isNode)) := ⟨tb6_in (i := 120) rfl, rfl⟩
theorem s_Mo_isNode : gd (.selects "SuperDriverModel" (my M_Mo_isNode) (my M_Mo_isNode)) := ⟨pv_in (i := 57) rfl, rfl⟩
theorem k_Mo_isRenaming : LK M_Mo_isRenaming 2 := ⟨⟨tb6_in (i := 41) rfl, rfl⟩, ⟨tb1_in (i := 14) rfl, rfl⟩, ⟨by decide, by decide⟩, by decide +kernel, rfl, by decide⟩
theorem v_Mo_isRenaming : gd (.instanceMethod (my M_Mo_isRenaming)) := ⟨tb6_in (i := 40) rfl, rfl⟩
theorem s_Mo_isRenaming : gd (.selects "SuperDriverModel" (my M_Mo_isRenaming) (my M_Mo_isRenaming)) := ⟨pv_in (i := 38) rfl, rfl⟩
theorem k_Mo_isTerm : LK M_Mo_isTerm 2 := ⟨⟨tb5_in (i := 209) rfl, rfl⟩, ⟨tb1_in (i := 14) rfl, rfl⟩, ⟨by decide, by decide⟩, by decide +kernel, rfl, by decide⟩
theorem v_Mo_isTerm : gd (.instanceMethod (my M_Mo_isTerm)) := ⟨tb5_in (i := 208) rfl, rfl⟩
theorem s_Mo_isTerm : gd (.selects "SuperDriverModel" (my M_Mo_isTerm) (my M_Mo_isTerm)) := ⟨pv_in (i := 23) rfl, rfl⟩
theorem k_Mo_let : LK M_Mo_let 3 := ⟨⟨tb6_in (i := 69) rfl, rfl⟩, ⟨tb1_in (i := 14) rfl, rfl⟩, ⟨by decide, by decide⟩, by decide +kernel, rfl, by decide⟩
theorem v_Mo_let : gd (.instanceMethod (my M_Mo_let)) := ⟨tb6_in (i := 68) rfl, rfl⟩
theorem s_Mo_let : gd (.selects "SuperDriverModel" (my M_Mo_let) (my M_Mo_let)) := ⟨pv_in (i := 45) rfl, rfl⟩
theorem k_Mo_load : LK M_Mo_load 1 := ⟨⟨tb6_in (i := 13) rfl, rfl⟩, ⟨tb1_in (i := 14) rfl, rfl⟩, ⟨by decide, by decide⟩, by decide +kernel, rfl, by decide⟩
theorem v_Mo_load : gd (.instanceMethod (my M_Mo_load)) := ⟨tb6_in (i := 12) rfl, rfl⟩
theorem s_Mo_load : gd (.selects "SuperDriverModel" (my M_Mo_load) (my M_Mo_load)) := ⟨pv_in (i := 31) rfl, rfl⟩
theorem k_Mo_lowestOpen : LK M_Mo_lowestOpen 0 := ⟨⟨tb6_in (i := 89) rfl, rfl⟩, ⟨tb1_in (i := 14) rfl, rfl⟩, ⟨by decide, by decide⟩, by decide +kernel, rfl, by decide⟩
theorem v_Mo_lowestOpen : gd (.instanceMethod (my M_Mo_lowestOpen)) := ⟨tb6_in (i := 88) rfl, rfl⟩
theorem s_Mo_lowestOpen : gd (.selects "SuperDriverModel" (my M_Mo_lowestOpen) (my M_Mo_lowestOpen)) := ⟨pv_in (i := 50) rfl, rfl⟩
theorem k_Mo_nextCall : LK M_Mo_nextCall 0 := ⟨⟨tb6_in (i := 17) rfl, rfl⟩, ⟨tb1_in (i := 14) rfl, rfl⟩, ⟨by decide, by decide⟩, by decide +kernel, rfl, by decide⟩
theorem v_Mo_nextCall : gd (.instanceMethod (my M_Mo_nextCall)) := ⟨tb6_in (i := 16) rfl, rfl⟩
theorem s_Mo_nextCall : gd (.selects "SuperDriverModel" (my M_Mo_nextCall) (my M_Mo_nextCall)) := ⟨pv_in (i := 32) rfl, rfl⟩
theorem k_Mo_node : LK M_Mo_node 2 := ⟨⟨tb6_in (i := 117) rfl, rfl⟩, ⟨tb1_in (i := 14) rfl, rfl⟩, ⟨by decide, by decide⟩, by decide +kernel, rfl, by decide⟩
theorem v_Mo_node : gd (.instanceMethod (my M_Mo_node)) := ⟨tb6_in (i := 115) rfl, rfl⟩
theorem s_Mo_node : gd (.selects "SuperDriverModel" (my M_Mo_node) (my M_Mo_node)) := ⟨tb6_in (i := 116) rfl, rfl⟩
theorem k_Mo_partsOf : LK M_Mo_partsOf 1 := ⟨⟨tb5_in (i := 213) rfl, rfl⟩, ⟨tb1_in (i := 14) rfl, rfl⟩, ⟨by decide, by decide⟩, by decide +kernel, rfl, by decide⟩
theorem v_Mo_partsOf : gd (.instanceMethod (my M_Mo_partsOf)) := ⟨tb5_in (i := 212) rfl, rfl⟩
theorem s_Mo_partsOf : gd (.selects "SuperDriverModel" (my M_Mo_partsOf) (my M_Mo_partsOf)) := ⟨pv_in (i := 24) rfl, rfl⟩
theorem k_Mo_put : LK M_Mo_put 1 := ⟨⟨tb6_in (i := 109) rfl, rfl⟩, ⟨tb1_in (i := 14) rfl, rfl⟩, ⟨by decide, by decide⟩, by decide +kernel, rfl, by decide⟩
theorem v_Mo_put : gd (.instanceMethod (my M_Mo_put)) := ⟨tb6_in (i := 108) rfl, rfl⟩
theorem s_Mo_put : gd (.selects "SuperDriverModel" (my M_Mo_put) (my M_Mo_put)) := ⟨pv_in (i := 55) rfl, rfl⟩
theorem k_Mo_putCall : LK M_Mo_putCall 1 := ⟨⟨tb6_in (i := 105) rfl, rfl⟩, ⟨tb1_in (i := 14) rfl, rfl⟩, ⟨by decide, by decide⟩, by decide +kernel, rfl, by decide⟩
theorem v_Mo_putCall : gd (.instanceMethod (my M_Mo_putCall)) := ⟨tb6_in (i := 104) rfl, rfl⟩
theorem s_Mo_putCall : gd (.selects "SuperDriverModel" (my M_Mo_putCall) (my M_Mo_putCall)) := ⟨pv_in (i := 54) rfl, rfl⟩
theorem k_Mo_putResidual : LK M_Mo_putResidual 1 := ⟨⟨tb6_in (i := 113) rfl, rfl⟩, ⟨tb1_in (i := 14) rfl, rfl⟩, ⟨by decide, by decide⟩, by decide +kernel, rfl, by decide⟩
theorem v_Mo_putResidual : gd (.instanceMethod (my M_Mo_putResidual)) := ⟨tb6_in (i := 112) rfl, rfl⟩
theorem s_Mo_putResidual : gd (.selects "SuperDriverModel" (my M_Mo_putResidual) (my M_Mo_putResidual)) := ⟨pv_in (i := 56) rfl, rfl⟩
theorem k_Mo_renames : LK M_Mo_renames 6 := ⟨⟨tb6_in (i := 45) rfl, rfl⟩, ⟨tb1_in (i := 14) rfl, rfl⟩, ⟨by decide, by decide⟩, by decide +kernel, rfl, by decide⟩
theorem v_Mo_renames : gd (.instanceMethod (my M_Mo_renames)) := ⟨tb6_in (i := 44) rfl, rfl⟩
theorem s_Mo_renames : gd (.selects "SuperDriverModel" (my M_Mo_renames) (my M_Mo_renames)) := ⟨pv_in (i := 39) rfl, rfl⟩
theorem k_Mo_renew : LK M_Mo_renew 1 := ⟨⟨tb6_in (i := 53) rfl, rfl⟩, ⟨tb1_in (i := 14) rfl, rfl⟩, ⟨by decide, by decide⟩, by decide +kernel, rfl, by decide⟩
theorem v_Mo_renew : gd (.instanceMethod (my M_Mo_renew)) := ⟨tb6_in (i := 52) rfl, rfl⟩
theorem s_Mo_renew : gd (.selects "SuperDriverModel" (my M_Mo_renew) (my M_Mo_renew)) := ⟨pv_in (i := 41) rfl, rfl⟩
theorem k_Mo_residual : LK M_Mo_residual 2 := ⟨⟨tb6_in (i := 129) rfl, rfl⟩, ⟨tb1_in (i := 14) rfl, rfl⟩, ⟨by decide, by decide⟩, by decide +kernel, rfl, by decide⟩
theorem v_Mo_residual : gd (.instanceMethod (my M_Mo_residual)) := ⟨tb6_in (i := 127) rfl, rfl⟩
theorem s_Mo_residual : gd (.selects "SuperDriverModel" (my M_Mo_residual) (my M_Mo_residual)) := ⟨tb6_in (i := 128) rfl, rfl⟩
theorem k_Mo_result : LK M_Mo_result 1 := ⟨⟨tb6_in (i := 145) rfl, rfl⟩, ⟨tb1_in (i := 14) rfl, rfl⟩, ⟨by decide, by decide⟩, by decide +kernel, rfl, by decide⟩
theorem v_Mo_result : gd (.instanceMethod (my M_Mo_result)) := ⟨tb6_in (i := 143) rfl, rfl⟩
theorem s_Mo_result : gd (.selects "SuperDriverModel" (my M_Mo_result) (my M_Mo_result)) := ⟨tb6_in (i := 144) rfl, rfl⟩
theorem k_Mo_rival : LK M_Mo_rival 3 := ⟨⟨tb6_in (i := 29) rfl, rfl⟩, ⟨tb1_in (i := 14) rfl, rfl⟩, ⟨by decide, by decide⟩, by decide +kernel, rfl, by decide⟩
theorem v_Mo_rival : gd (.instanceMethod (my M_Mo_rival)) := ⟨tb6_in (i := 28) rfl, rfl⟩
theorem s_Mo_rival : gd (.selects "SuperDriverModel" (my M_Mo_rival) (my M_Mo_rival)) := ⟨pv_in (i := 35) rfl, rfl⟩
theorem k_Mo_run : LK M_Mo_run 2 := ⟨⟨tb6_in (i := 133) rfl, rfl⟩, ⟨tb1_in (i := 14) rfl, rfl⟩, ⟨by decide, by decide⟩, by decide +kernel, rfl, by decide⟩
theorem v_Mo_run : gd (.instanceMethod (my M_Mo_run)) := ⟨tb6_in (i := 131) rfl, rfl⟩
theorem s_Mo_run : gd (.selects "SuperDriverModel" (my M_Mo_run) (my M_Mo_run)) := ⟨tb6_in (i := 132) rfl, rfl⟩
theorem k_Mo_signOf : LK M_Mo_signOf 1 := ⟨⟨tb5_in (i := 182) rfl, rfl⟩, ⟨tb1_in (i := 14) rfl, rfl⟩, ⟨by decide, by decide⟩, by decide +kernel, rfl, by decide⟩
theorem z_Mo_signOf : gd (.static (my M_Mo_signOf)) := ⟨tb5_in (i := 181) rfl, rfl⟩
theorem k_Mo_split : LK M_Mo_split 2 := ⟨⟨tb6_in (i := 85) rfl, rfl⟩, ⟨tb1_in (i := 14) rfl, rfl⟩, ⟨by decide, by decide⟩, by decide +kernel, rfl, by decide⟩
theorem v_Mo_split : gd (.instanceMethod (my M_Mo_split)) := ⟨tb6_in (i := 84) rfl, rfl⟩
theorem s_Mo_split : gd (.selects "SuperDriverModel" (my M_Mo_split) (my M_Mo_split)) := ⟨pv_in (i := 49) rfl, rfl⟩
theorem k_Mo_stand : LK M_Mo_stand 2 := ⟨⟨tb6_in (i := 81) rfl, rfl⟩, ⟨tb1_in (i := 14) rfl, rfl⟩, ⟨by decide, by decide⟩, by decide +kernel, rfl, by decide⟩
theorem v_Mo_stand : gd (.instanceMethod (my M_Mo_stand)) := ⟨tb6_in (i := 80) rfl, rfl⟩
theorem s_Mo_stand : gd (.selects "SuperDriverModel" (my M_Mo_stand) (my M_Mo_stand)) := ⟨pv_in (i := 48) rfl, rfl⟩
theorem k_Mo_steps : LK M_Mo_steps 0 := ⟨⟨tb6_in (i := 149) rfl, rfl⟩, ⟨tb1_in (i := 14) rfl, rfl⟩, ⟨by decide, by decide⟩, by decide +kernel, rfl, by decide⟩
theorem v_Mo_steps : gd (.instanceMethod (my M_Mo_steps)) := ⟨tb6_in (i := 147) rfl, rfl⟩
theorem s_Mo_steps : gd (.selects "SuperDriverModel" (my M_Mo_steps) (my M_Mo_steps)) := ⟨tb6_in (i := 148) rfl, rfl⟩
theorem k_Mo_takeText : LK M_Mo_takeText 2 := ⟨⟨tb5_in (i := 217) rfl, rfl⟩, ⟨tb1_in (i := 14) rfl, rfl⟩, ⟨by decide, by decide⟩, by decide +kernel, rfl, by decide⟩
theorem v_Mo_takeText : gd (.instanceMethod (my M_Mo_takeText)) := ⟨tb5_in (i := 216) rfl, rfl⟩
theorem s_Mo_takeText : gd (.selects "SuperDriverModel" (my M_Mo_takeText) (my M_Mo_takeText)) := ⟨pv_in (i := 25) rfl, rfl⟩
theorem k_Mo_term : LK M_Mo_term 2 := ⟨⟨tb6_in (i := 125) rfl, rfl⟩, ⟨tb1_in (i := 14) rfl, rfl⟩, ⟨by decide, by decide⟩, by decide +kernel, rfl, by decide⟩
theorem v_Mo_term : gd (.instanceMethod (my M_Mo_term)) := ⟨tb6_in (i := 123) rfl, rfl⟩
theorem s_Mo_term : gd (.selects "SuperDriverModel" (my M_Mo_term) (my M_Mo_term)) := ⟨tb6_in (i := 124) rfl, rfl⟩
theorem k_Mo_throwing : LK M_Mo_throwing 2 := ⟨⟨tb5_in (i := 198) rfl, rfl⟩, ⟨tb1_in (i := 14) rfl, rfl⟩, ⟨by decide, by decide⟩, by decide +kernel, rfl, by decide⟩
theorem v_Mo_throwing : gd (.instanceMethod (my M_Mo_throwing)) := ⟨tb5_in (i := 197) rfl, rfl⟩
theorem s_Mo_throwing : gd (.selects "SuperDriverModel" (my M_Mo_throwing) (my M_Mo_throwing)) := ⟨pv_in (i := 22) rfl, rfl⟩
theorem k_Mo_thrown : LK M_Mo_thrown 0 := ⟨⟨tb5_in (i := 174) rfl, rfl⟩, ⟨tb1_in (i := 14) rfl, rfl⟩, ⟨by decide, by decide⟩, by decide +kernel, rfl, by decide⟩
theorem v_Mo_thrown : gd (.instanceMethod (my M_Mo_thrown)) := ⟨tb5_in (i := 172) rfl, rfl⟩
theorem s_Mo_thrown : gd (.selects "SuperDriverModel" (my M_Mo_thrown) (my M_Mo_thrown)) := ⟨tb5_in (i := 173) rfl, rfl⟩
theorem k_Mo_turn : LK M_Mo_turn 1 := ⟨⟨tb5_in (i := 237) rfl, rfl⟩, ⟨tb1_in (i := 14) rfl, rfl⟩, ⟨by decide, by decide⟩, by decide +kernel, rfl, by decide⟩
theorem v_Mo_turn : gd (.instanceMethod (my M_Mo_turn)) := ⟨tb5_in (i := 236) rfl, rfl⟩
theorem s_Mo_turn : gd (.selects "SuperDriverModel" (my M_Mo_turn) (my M_Mo_turn)) := ⟨pv_in (i := 27) rfl, rfl⟩
theorem k_Mo_type : LK M_Mo_type 1 := ⟨⟨tb5_in (i := 178) rfl, rfl⟩, ⟨tb1_in (i := 14) rfl, rfl⟩, ⟨by decide, by decide⟩, by decide +kernel, rfl, by decide⟩
theorem v_Mo_type : gd (.instanceMethod (my M_Mo_type)) := ⟨tb5_in (i := 176) rfl, rfl⟩
theorem s_Mo_type : gd (.selects "SuperDriverModel" (my M_Mo_type) (my M_Mo_type)) := ⟨tb5_in (i := 177) rfl, rfl⟩
theorem k_Mo_unfold : LK M_Mo_unfold 1 := ⟨⟨tb6_in (i := 73) rfl, rfl⟩, ⟨tb1_in (i := 14) rfl, rfl⟩, ⟨by decide, by decide⟩, by decide +kernel, rfl, by decide⟩
theorem v_Mo_unfold : gd (.instanceMethod (my M_Mo_unfold)) := ⟨tb6_in (i := 72) rfl, rfl⟩
theorem s_Mo_unfold : gd (.selects "SuperDriverModel" (my M_Mo_unfold) (my M_Mo_unfold)) := ⟨pv_in (i := 46) rfl, rfl⟩
theorem k_Mo_wipe : LK M_Mo_wipe 0 := ⟨⟨tb5_in (i := 186) rfl, rfl⟩, ⟨tb1_in (i := 14) rfl, rfl⟩, ⟨by decide, by decide⟩, by decide +kernel, rfl, by decide⟩
theorem v_Mo_wipe : gd (.instanceMethod (my M_Mo_wipe)) := ⟨tb5_in (i := 184) rfl, rfl⟩
theorem s_Mo_wipe : gd (.selects "SuperDriverModel" (my M_Mo_wipe) (my M_Mo_wipe)) := ⟨tb5_in (i := 185) rfl, rfl⟩
theorem k_Mo_write : LK M_Mo_write 1 := ⟨⟨tb6_in (i := 101) rfl, rfl⟩, ⟨tb1_in (i := 14) rfl, rfl⟩, ⟨by decide, by decide⟩, by decide +kernel, rfl, by decide⟩
theorem v_Mo_write : gd (.instanceMethod (my M_Mo_write)) := ⟨tb6_in (i := 100) rfl, rfl⟩
theorem s_Mo_write : gd (.selects "SuperDriverModel" (my M_Mo_write) (my M_Mo_write)) := ⟨pv_in (i := 53) rfl, rfl⟩
theorem ini_Law : gd (.initialized "SuperDriverLaw") := ⟨tb1_in (i := 0) rfl, rfl⟩
theorem ini_SD : gd (.initialized "SuperDriver") := ⟨tb1_in (i := 1) rfl, rfl⟩
theorem ini_Row : gd (.initialized "SuperDriver$Row") := ⟨tb1_in (i := 2) rfl, rfl⟩
theorem ini_Math : gd (.initialized "java/lang/Math") := ⟨tb1_in (i := 3) rfl, rfl⟩
theorem ini_Substitution : gd (.initialized "SuperDriver$Substitution") := ⟨tb1_in (i := 4) rfl, rfl⟩
theorem ini_Signs : gd (.initialized "SuperDriver$Signs") := ⟨tb1_in (i := 5) rfl, rfl⟩
theorem ini_Program : gd (.initialized "SuperDriver$Program") := ⟨tb1_in (i := 6) rfl, rfl⟩
theorem ini_SourceProgram : gd (.initialized "SuperDriver$SourceProgram") := ⟨tb1_in (i := 7) rfl, rfl⟩
theorem ini_Tree : gd (.initialized "SuperDriver$Tree") := ⟨tb1_in (i := 8) rfl, rfl⟩
theorem ini_Node : gd (.initialized "SuperDriver$Node") := ⟨tb1_in (i := 9) rfl, rfl⟩
theorem ini_Driver : gd (.initialized "SuperDriver$Driver") := ⟨tb1_in (i := 10) rfl, rfl⟩
theorem ini_Generaliser : gd (.initialized "SuperDriver$Generaliser") := ⟨tb1_in (i := 11) rfl, rfl⟩
theorem ini_ResidualProgram : gd (.initialized "SuperDriver$ResidualProgram") := ⟨tb1_in (i := 12) rfl, rfl⟩
theorem ini_Runner : gd (.initialized "SuperDriver$Runner") := ⟨tb1_in (i := 13) rfl, rfl⟩
theorem ini_Mo : gd (.initialized "SuperDriverModel") := ⟨tb1_in (i := 14) rfl, rfl⟩
theorem ini_Throwable : gd (.initialized "java/lang/Throwable") := ⟨tb1_in (i := 15) rfl, rfl⟩
theorem ini_Exception : gd (.initialized "java/lang/Exception") := ⟨tb1_in (i := 16) rfl, rfl⟩
theorem ini_RuntimeException : gd (.initialized "java/lang/RuntimeException") := ⟨tb1_in (i := 17) rfl, rfl⟩
theorem ini_IllegalArgumentException : gd (.initialized "java/lang/IllegalArgumentException") := ⟨tb1_in (i := 18) rfl, rfl⟩
theorem ini_IllegalStateException : gd (.initialized "java/lang/IllegalStateException") := ⟨tb1_in (i := 19) rfl, rfl⟩
theorem ini_System : gd (.initialized "java/lang/System") := ⟨tb1_in (i := 20) rfl, rfl⟩
theorem ini_UnsupportedOperationException : gd (.initialized "java/lang/UnsupportedOperationException") := ⟨tb1_in (i := 21) rfl, rfl⟩
theorem cl_Law_8 : gd (.classLink "SuperDriverLaw" 8 "SuperDriver") := ⟨tb1_in (i := 22) rfl, rfl⟩
theorem ins_SD : gd (.instantiable "SuperDriver" 9) := ⟨tb1_in (i := 23) rfl, rfl⟩
theorem l_Law_34 : gd (.methodLink "SuperDriverLaw" 34 (my M_SD_init)) := ⟨tb1_in (i := 24) rfl, rfl⟩
theorem l_SD_3 : gd (.methodLink "SuperDriver" 3 ⟨"java/lang/Object", "<init>", "()V"⟩) := ⟨tb1_in (i := 27) rfl, rfl⟩
theorem cl_SD_9 : gd (.classLink "SuperDriver" 9 "SuperDriver$Row") := ⟨tb1_in (i := 30) rfl, rfl⟩
theorem ins_Row : gd (.instantiable "SuperDriver$Row" 3) := ⟨tb1_in (i := 31) rfl, rfl⟩
theorem l_SD_11 : gd (.methodLink "SuperDriver" 11 (my M_Row_init)) := ⟨tb1_in (i := 32) rfl, rfl⟩
theorem l_Row_3 : gd (.methodLink "SuperDriver$Row" 3 ⟨"java/lang/Object", "<init>", "()V"⟩) := ⟨tb1_in (i := 35) rfl, rfl⟩
theorem l_Row_9 : gd (.methodLink "SuperDriver$Row" 9 ⟨"java/lang/Math", "max", "(II)I"⟩) := ⟨tb1_in (i := 36) rfl, rfl⟩
theorem ac_int : gd (.arrayClass .int) := ⟨tb1_in (i := 49) rfl, rfl⟩
theorem ao_Row : Cond.arrayOver (.object "SuperDriver$Row") ∈ lw_tbl := tb1_in (i := 50) rfl
theorem cl_SD_25 : gd (.classLink "SuperDriver" 25 "SuperDriver$Substitution") := ⟨tb1_in (i := 51) rfl, rfl⟩
theorem ins_Substitution : gd (.instantiable "SuperDriver$Substitution" 5) := ⟨tb1_in (i := 52) rfl, rfl⟩
theorem ln_SD_27 : Cond.methodLinkNest "SuperDriver" 27 (my M_Substitution_init) "SuperDriver" ∈ lw_tbl := tb1_in (i := 53) rfl
theorem l_Substitution_3 : gd (.methodLink "SuperDriver$Substitution" 3 ⟨"java/lang/Object", "<init>", "()V"⟩) := ⟨tb1_in (i := 56) rfl, rfl⟩
theorem cl_Substitution_9 : gd (.classLink "SuperDriver$Substitution" 9 "SuperDriver$Row") := ⟨tb1_in (i := 57) rfl, rfl⟩
theorem cl_SD_28 : gd (.classLink "SuperDriver" 28 "SuperDriver$Signs") := ⟨tb1_in (i := 74) rfl, rfl⟩
theorem ins_Signs : gd (.instantiable "SuperDriver$Signs" 5) := ⟨tb1_in (i := 75) rfl, rfl⟩
theorem l_SD_30 : gd (.methodLink "SuperDriver" 30 (my M_Signs_init)) := ⟨tb1_in (i := 76) rfl, rfl⟩
theorem l_Signs_3 : gd (.methodLink "SuperDriver$Signs" 3 ⟨"java/lang/Object", "<init>", "()V"⟩) := ⟨tb1_in (i := 79) rfl, rfl⟩
theorem ac_boolean : gd (.arrayClass .boolean) := ⟨tb1_in (i := 98) rfl, rfl⟩
theorem ac_long : gd (.arrayClass .long) := ⟨tb1_in (i := 99) rfl, rfl⟩
theorem cl_SD_35 : gd (.classLink "SuperDriver" 35 "SuperDriver$SourceProgram") := ⟨tb1_in (i := 100) rfl, rfl⟩
theorem ins_SourceProgram : gd (.instantiable "SuperDriver$SourceProgram" 3) := ⟨tb1_in (i := 101) rfl, rfl⟩
theorem l_SD_37 : gd (.methodLink "SuperDriver" 37 (my M_SourceProgram_init)) := ⟨tb1_in (i := 102) rfl, rfl⟩
theorem l_SourceProgram_3 : gd (.methodLink "SuperDriver$SourceProgram" 3 (my M_Program_init)) := ⟨tb1_in (i := 105) rfl, rfl⟩
theorem l_Program_3 : gd (.methodLink "SuperDriver$Program" 3 ⟨"java/lang/Object", "<init>", "()V"⟩) := ⟨tb1_in (i := 108) rfl, rfl⟩
theorem cl_SourceProgram_9 : gd (.classLink "SuperDriver$SourceProgram" 9 "SuperDriver$Row") := ⟨tb1_in (i := 109) rfl, rfl⟩
theorem l_SourceProgram_17 : gd (.methodLink "SuperDriver$SourceProgram" 17 (my M_Row_init)) := ⟨tb1_in (i := 110) rfl, rfl⟩
theorem cl_SD_44 : gd (.classLink "SuperDriver" 44 "SuperDriver$Tree") := ⟨tb1_in (i := 127) rfl, rfl⟩
theorem ins_Tree : gd (.instantiable "SuperDriver$Tree" 4) := ⟨tb1_in (i := 128) rfl, rfl⟩
theorem l_SD_46 : gd (.methodLink "SuperDriver" 46 (my M_Tree_init)) := ⟨tb1_in (i := 129) rfl, rfl⟩
theorem l_Tree_3 : gd (.methodLink "SuperDriver$Tree" 3 ⟨"java/lang/Object", "<init>", "()V"⟩) := ⟨tb1_in (i := 132) rfl, rfl⟩
theorem cl_Tree_9 : gd (.classLink "SuperDriver$Tree" 9 "SuperDriver$Node") := ⟨tb1_in (i := 133) rfl, rfl⟩
theorem ao_Node : Cond.arrayOver (.object "SuperDriver$Node") ∈ lw_tbl := tb1_in (i := 134) rfl
theorem ins_Node : gd (.instantiable "SuperDriver$Node" 14) := ⟨tb1_in (i := 135) rfl, rfl⟩
theorem l_Tree_28 : gd (.methodLink "SuperDriver$Tree" 28 (my M_Node_init)) := ⟨tb1_in (i := 136) rfl, rfl⟩
theorem l_Node_3 : gd (.methodLink "SuperDriver$Node" 3 ⟨"java/lang/Object", "<init>", "()V"⟩) := ⟨tb1_in (i := 139) rfl, rfl⟩
theorem cl_Node_9 : gd (.classLink "SuperDriver$Node" 9 "SuperDriver$Row") := ⟨tb1_in (i := 140) rfl, rfl⟩
theorem l_Node_11 : gd (.methodLink "SuperDriver$Node" 11 (my M_Row_init)) := ⟨tb1_in (i := 141) rfl, rfl⟩
theorem cl_SD_51 : gd (.classLink "SuperDriver" 51 "SuperDriver$Driver") := ⟨tb1_in (i := 225) rfl, rfl⟩
theorem ins_Driver : gd (.instantiable "SuperDriver$Driver" 8) := ⟨tb1_in (i := 226) rfl, rfl⟩
theorem l_SD_53 : gd (.methodLink "SuperDriver" 53 (my M_Driver_init)) := ⟨tb1_in (i := 227) rfl, rfl⟩
theorem l_Driver_3 : gd (.methodLink "SuperDriver$Driver" 3 ⟨"java/lang/Object", "<init>", "()V"⟩) := ⟨tb1_in (i := 230) rfl, rfl⟩
theorem cl_Driver_9 : gd (.classLink "SuperDriver$Driver" 9 "SuperDriver$Row") := ⟨tb1_in (i := 231) rfl, rfl⟩
theorem l_Driver_11 : gd (.methodLink "SuperDriver$Driver" 11 (my M_Row_init)) := ⟨tb1_in (i := 232) rfl, rfl⟩
theorem cl_Driver_42 : gd (.classLink "SuperDriver$Driver" 42 "SuperDriver$Generaliser") := ⟨tb1_in (i := 233) rfl, rfl⟩
theorem ins_Generaliser : gd (.instantiable "SuperDriver$Generaliser" 7) := ⟨tb1_in (i := 234) rfl, rfl⟩
theorem l_Driver_44 : gd (.methodLink "SuperDriver$Driver" 44 (my M_Generaliser_init)) := ⟨tb1_in (i := 235) rfl, rfl⟩
theorem l_Generaliser_3 : gd (.methodLink "SuperDriver$Generaliser" 3 ⟨"java/lang/Object", "<init>", "()V"⟩) := ⟨tb1_in (i := 238) rfl, rfl⟩
theorem cl_Generaliser_9 : gd (.classLink "SuperDriver$Generaliser" 9 "SuperDriver$Row") := ⟨tb1_in (i := 239) rfl, rfl⟩
theorem l_Generaliser_11 : gd (.methodLink "SuperDriver$Generaliser" 11 (my M_Row_init)) := ⟨tb2_in (i := 0) rfl, rfl⟩
theorem cl_SD_60 : gd (.classLink "SuperDriver" 60 "SuperDriver$ResidualProgram") := ⟨tb2_in (i := 48) rfl, rfl⟩
theorem ins_ResidualProgram : gd (.instantiable "SuperDriver$ResidualProgram" 3) := ⟨tb2_in (i := 49) rfl, rfl⟩
theorem l_SD_62 : gd (.methodLink "SuperDriver" 62 (my M_ResidualProgram_init)) := ⟨tb2_in (i := 50) rfl, rfl⟩
theorem l_ResidualProgram_3 : gd (.methodLink "SuperDriver$ResidualProgram" 3 (my M_Program_init)) := ⟨tb2_in (i := 53) rfl, rfl⟩
theorem cl_SD_69 : gd (.classLink "SuperDriver" 69 "SuperDriver$Runner") := ⟨tb2_in (i := 60) rfl, rfl⟩
theorem ins_Runner : gd (.instantiable "SuperDriver$Runner" 6) := ⟨tb2_in (i := 61) rfl, rfl⟩
theorem l_SD_71 : gd (.methodLink "SuperDriver" 71 (my M_Runner_init)) := ⟨tb2_in (i := 62) rfl, rfl⟩
theorem l_Runner_3 : gd (.methodLink "SuperDriver$Runner" 3 ⟨"java/lang/Object", "<init>", "()V"⟩) := ⟨tb2_in (i := 65) rfl, rfl⟩
theorem cl_Runner_9 : gd (.classLink "SuperDriver$Runner" 9 "SuperDriver$Row") := ⟨tb2_in (i := 66) rfl, rfl⟩
theorem l_Runner_11 : gd (.methodLink "SuperDriver$Runner" 11 (my M_Row_init)) := ⟨tb2_in (i := 67) rfl, rfl⟩
theorem l_Law_40 : gd (.methodLink "SuperDriverLaw" 40 (my M_SD_type)) := ⟨tb2_in (i := 115) rfl, rfl⟩
theorem l_SD_76 : gd (.methodLink "SuperDriver" 76 (my M_SD_letterAt)) := ⟨tb2_in (i := 119) rfl, rfl⟩
theorem l_SD_80 : gd (.methodLink "SuperDriver" 80 (my M_SD_signOf)) := ⟨tb2_in (i := 122) rfl, rfl⟩
theorem l_SD_84 : gd (.methodLink "SuperDriver" 84 (my M_Row_length)) := ⟨tb2_in (i := 125) rfl, rfl⟩
theorem l_SD_88 : gd (.methodLink "SuperDriver" 88 (my M_Row_add)) := ⟨tb2_in (i := 129) rfl, rfl⟩
theorem l_Law_45 : gd (.methodLink "SuperDriverLaw" 45 (my M_SD_wipe)) := ⟨tb2_in (i := 133) rfl, rfl⟩
theorem l_SD_91 : gd (.methodLink "SuperDriver" 91 (my M_Row_clear)) := ⟨tb2_in (i := 137) rfl, rfl⟩
theorem l_Law_49 : gd (.methodLink "SuperDriverLaw" 49 (my M_SD_forget)) := ⟨tb2_in (i := 141) rfl, rfl⟩
theorem l_SD_94 : gd (.methodLink "SuperDriver" 94 (my M_SourceProgram_clear)) := ⟨tb2_in (i := 145) rfl, rfl⟩
theorem l_SourceProgram_24 : gd (.methodLink "SuperDriver$SourceProgram" 24 (my M_Signs_shape)) := ⟨tb2_in (i := 149) rfl, rfl⟩
theorem ln_Signs_32 : Cond.methodLinkNest "SuperDriver$Signs" 32 (my M_SD_isCall) "SuperDriver" ∈ lw_tbl := tb2_in (i := 153) rfl
theorem l_SourceProgram_30 : gd (.methodLink "SuperDriver$SourceProgram" 30 (my M_Row_clear)) := ⟨tb2_in (i := 156) rfl, rfl⟩
theorem l_SD_95 : gd (.methodLink "SuperDriver" 95 (my M_Tree_clear)) := ⟨tb2_in (i := 157) rfl, rfl⟩
theorem l_SD_96 : gd (.methodLink "SuperDriver" 96 (my M_Runner_clear)) := ⟨tb2_in (i := 161) rfl, rfl⟩
theorem l_Law_70 : gd (.methodLink "SuperDriverLaw" 70 (my M_SD_input)) := ⟨tb2_in (i := 165) rfl, rfl⟩
theorem l_SD_139 : gd (.methodLink "SuperDriver" 139 (my M_Signs_isValue)) := ⟨tb2_in (i := 169) rfl, rfl⟩
theorem l_Signs_36 : gd (.methodLink "SuperDriver$Signs" 36 (my M_Row_length)) := ⟨tb2_in (i := 173) rfl, rfl⟩
theorem l_Signs_42 : gd (.methodLink "SuperDriver$Signs" 42 (my M_Row_at)) := ⟨tb2_in (i := 174) rfl, rfl⟩
theorem ln_Signs_49 : Cond.methodLinkNest "SuperDriver$Signs" 49 (my M_SD_isConstructor) "SuperDriver" ∈ lw_tbl := tb2_in (i := 178) rfl
theorem l_Signs_52 : gd (.methodLink "SuperDriver$Signs" 52 (my M_Signs_isTerm)) := ⟨tb2_in (i := 181) rfl, rfl⟩
theorem l_Signs_46 : gd (.methodLink "SuperDriver$Signs" 46 (my M_Signs_partsOf)) := ⟨tb2_in (i := 185) rfl, rfl⟩
theorem l_SD_135 : gd (.methodLink "SuperDriver" 135 (my M_Row_copy)) := ⟨tb2_in (i := 189) rfl, rfl⟩
theorem l_Row_38 : gd (.methodLink "SuperDriver$Row" 38 (my M_Row_clear)) := ⟨tb2_in (i := 193) rfl, rfl⟩
theorem l_Row_41 : gd (.methodLink "SuperDriver$Row" 41 (my M_Row_addRange)) := ⟨tb2_in (i := 194) rfl, rfl⟩
theorem l_Row_29 : gd (.methodLink "SuperDriver$Row" 29 ⟨"java/lang/Math", "min", "(II)I"⟩) := ⟨tb2_in (i := 198) rfl, rfl⟩
theorem l_Row_32 : gd (.methodLink "SuperDriver$Row" 32 ⟨"java/lang/System", "arraycopy", "(Ljava/lang/Object;ILjava/lang/Object;II)V"⟩) := ⟨tb2_in (i := 201) rfl, rfl⟩
theorem l_Law_79 : gd (.methodLink "SuperDriverLaw" 79 (my M_SD_node)) := ⟨tb2_in (i := 204) rfl, rfl⟩
theorem l_SD_168 : gd (.methodLink "SuperDriver" 168 (my M_Tree_get)) := ⟨tb2_in (i := 208) rfl, rfl⟩
theorem l_Law_84 : gd (.methodLink "SuperDriverLaw" 84 (my M_SD_term)) := ⟨tb2_in (i := 212) rfl, rfl⟩
theorem l_SD_195 : gd (.methodLink "SuperDriver" 195 (my M_Row_at)) := ⟨tb2_in (i := 216) rfl, rfl⟩
theorem l_Law_88 : gd (.methodLink "SuperDriverLaw" 88 (my M_SD_residual)) := ⟨tb2_in (i := 217) rfl, rfl⟩
theorem l_Law_96 : gd (.methodLink "SuperDriverLaw" 96 (my M_SD_result)) := ⟨tb2_in (i := 221) rfl, rfl⟩
theorem l_SD_219 : gd (.methodLink "SuperDriver" 219 (my M_Runner_constructorAt)) := ⟨tb2_in (i := 225) rfl, rfl⟩
theorem l_Runner_43 : gd (.methodLink "SuperDriver$Runner" 43 (my M_Row_length)) := ⟨tb2_in (i := 229) rfl, rfl⟩
theorem l_Runner_74 : gd (.methodLink "SuperDriver$Runner" 74 (my M_Row_at)) := ⟨tb2_in (i := 230) rfl, rfl⟩
theorem ln_Runner_78 : Cond.methodLinkNest "SuperDriver$Runner" 78 (my M_SD_isConstructor) "SuperDriver" ∈ lw_tbl := tb2_in (i := 231) rfl
theorem l_Law_101 : gd (.methodLink "SuperDriverLaw" 101 (my M_SD_steps)) := ⟨tb2_in (i := 232) rfl, rfl⟩
theorem l_SD_222 : gd (.methodLink "SuperDriver" 222 (my M_Runner_stepsMade)) := ⟨tb2_in (i := 236) rfl, rfl⟩
theorem l_Law_53 : gd (.methodLink "SuperDriverLaw" 53 (my M_Law_function)) := ⟨tb3_in (i := 0) rfl, rfl⟩
theorem l_Law_7 : gd (.methodLink "SuperDriverLaw" 7 (my M_SD_function)) := ⟨tb3_in (i := 5) rfl, rfl⟩
theorem l_SD_101 : gd (.methodLink "SuperDriver" 101 ⟨"java/lang/IllegalArgumentException", "<init>", "(Ljava/lang/String;)V"⟩) := ⟨tb3_in (i := 51) rfl, rfl⟩
theorem ac_byte : gd (.arrayClass .byte) := ⟨tb3_in (i := 76) rfl, rfl⟩
theorem l_SD_104 : gd (.methodLink "SuperDriver" 104 (my M_SourceProgram_isDeclared)) := ⟨tb3_in (i := 77) rfl, rfl⟩
theorem l_SourceProgram_34 : gd (.methodLink "SuperDriver$SourceProgram" 34 (my M_Signs_partsOf)) := ⟨tb3_in (i := 81) rfl, rfl⟩
theorem l_SD_112 : gd (.methodLink "SuperDriver" 112 ⟨"java/lang/IllegalStateException", "<init>", "(Ljava/lang/String;)V"⟩) := ⟨tb3_in (i := 92) rfl, rfl⟩
theorem l_SD_113 : gd (.methodLink "SuperDriver" 113 (my M_SourceProgram_declare)) := ⟨tb3_in (i := 98) rfl, rfl⟩
theorem l_Law_62 : gd (.methodLink "SuperDriverLaw" 62 (my M_Law_body)) := ⟨tb3_in (i := 102) rfl, rfl⟩
theorem l_Law_17 : gd (.methodLink "SuperDriverLaw" 17 (my M_SD_body)) := ⟨tb3_in (i := 105) rfl, rfl⟩
theorem l_SD_119 : gd (.methodLink "SuperDriver" 119 (my M_SourceProgram_mayHave)) := ⟨tb3_in (i := 110) rfl, rfl⟩
theorem l_SourceProgram_38 : gd (.methodLink "SuperDriver$SourceProgram" 38 (my M_Signs_isCased)) := ⟨tb3_in (i := 114) rfl, rfl⟩
theorem ln_SourceProgram_42 : Cond.methodLinkNest "SuperDriver$SourceProgram" 42 (my M_SD_partsOfConstructor) "SuperDriver" ∈ lw_tbl := tb3_in (i := 118) rfl
theorem l_SourceProgram_45 : gd (.methodLink "SuperDriver$SourceProgram" 45 (my M_Row_length)) := ⟨tb3_in (i := 122) rfl, rfl⟩
theorem l_SourceProgram_49 : gd (.methodLink "SuperDriver$SourceProgram" 49 (my M_Row_at)) := ⟨tb3_in (i := 123) rfl, rfl⟩
theorem ln_SourceProgram_52 : Cond.methodLinkNest "SuperDriver$SourceProgram" 52 (my M_SD_isVariable) "SuperDriver" ∈ lw_tbl := tb3_in (i := 124) rfl
theorem l_SourceProgram_55 : gd (.methodLink "SuperDriver$SourceProgram" 55 (my M_Signs_isTerm)) := ⟨tb3_in (i := 127) rfl, rfl⟩
theorem l_SD_125 : gd (.methodLink "SuperDriver" 125 (my M_SourceProgram_define)) := ⟨tb3_in (i := 129) rfl, rfl⟩
theorem l_SourceProgram_59 : gd (.methodLink "SuperDriver$SourceProgram" 59 (my M_SourceProgram_placeOf)) := ⟨tb3_in (i := 133) rfl, rfl⟩
theorem l_SourceProgram_63 : gd (.methodLink "SuperDriver$SourceProgram" 63 (my M_Row_copy)) := ⟨tb3_in (i := 137) rfl, rfl⟩
theorem l_Law_66 : gd (.methodLink "SuperDriverLaw" 66 (my M_Law_goal)) := ⟨tb3_in (i := 138) rfl, rfl⟩
theorem l_Law_21 : gd (.methodLink "SuperDriverLaw" 21 (my M_SD_goal)) := ⟨tb3_in (i := 141) rfl, rfl⟩
theorem l_SD_129 : gd (.methodLink "SuperDriver" 129 (my M_Signs_isTerm)) := ⟨tb3_in (i := 145) rfl, rfl⟩
theorem l_Law_75 : gd (.methodLink "SuperDriverLaw" 75 (my M_Law_drive)) := ⟨tb3_in (i := 147) rfl, rfl⟩
theorem l_Law_24 : gd (.methodLink "SuperDriverLaw" 24 (my M_SD_drive)) := ⟨tb3_in (i := 151) rfl, rfl⟩
theorem l_SD_142 : gd (.methodLink "SuperDriver" 142 (my M_Row_isEmpty)) := ⟨tb3_in (i := 155) rfl, rfl⟩
theorem l_SD_148 : gd (.methodLink "SuperDriver" 148 (my M_Driver_begin)) := ⟨tb3_in (i := 160) rfl, rfl⟩
theorem l_Driver_51 : gd (.methodLink "SuperDriver$Driver" 51 (my M_Tree_clear)) := ⟨tb3_in (i := 164) rfl, rfl⟩
theorem l_Driver_56 : gd (.methodLink "SuperDriver$Driver" 56 (my M_Row_length)) := ⟨tb3_in (i := 165) rfl, rfl⟩
theorem l_Driver_60 : gd (.methodLink "SuperDriver$Driver" 60 (my M_Tree_add)) := ⟨tb3_in (i := 166) rfl, rfl⟩
theorem l_Tree_31 : gd (.methodLink "SuperDriver$Tree" 31 (my M_Row_isTooLong)) := ⟨tb3_in (i := 170) rfl, rfl⟩
theorem l_Tree_37 : gd (.methodLink "SuperDriver$Tree" 37 (my M_Node_open)) := ⟨tb3_in (i := 174) rfl, rfl⟩
theorem l_Node_27 : gd (.methodLink "SuperDriver$Node" 27 (my M_Row_clear)) := ⟨tb3_in (i := 178) rfl, rfl⟩
theorem l_Node_30 : gd (.methodLink "SuperDriver$Node" 30 (my M_Row_addRange)) := ⟨tb3_in (i := 179) rfl, rfl⟩
theorem l_Node_41 : gd (.methodLink "SuperDriver$Node" 41 (my M_Node_dropBelow)) := ⟨tb3_in (i := 180) rfl, rfl⟩
theorem l_Node_53 : gd (.methodLink "SuperDriver$Node" 53 (my M_Node_become)) := ⟨tb3_in (i := 184) rfl, rfl⟩
theorem l_Tree_41 : gd (.methodLink "SuperDriver$Tree" 41 (my M_Node_put)) := ⟨tb3_in (i := 188) rfl, rfl⟩
theorem l_SD_151 : gd (.methodLink "SuperDriver" 151 (my M_Tree_count)) := ⟨tb3_in (i := 192) rfl, rfl⟩
theorem l_SD_154 : gd (.methodLink "SuperDriver" 154 (my M_Driver_settle)) := ⟨tb3_in (i := 196) rfl, rfl⟩
theorem l_Driver_64 : gd (.methodLink "SuperDriver$Driver" 64 (my M_Tree_get)) := ⟨tb3_in (i := 200) rfl, rfl⟩
theorem l_Driver_74 : gd (.methodLink "SuperDriver$Driver" 74 (my M_Tree_isTooGreat)) := ⟨tb3_in (i := 201) rfl, rfl⟩
theorem l_Driver_81 : gd (.methodLink "SuperDriver$Driver" 81 (my M_Row_at)) := ⟨tb3_in (i := 205) rfl, rfl⟩
theorem ln_Driver_85 : Cond.methodLinkNest "SuperDriver$Driver" 85 (my M_SD_isCall) "SuperDriver" ∈ lw_tbl := tb3_in (i := 206) rfl
theorem l_Driver_89 : gd (.methodLink "SuperDriver$Driver" 89 (my M_Driver_settleWithoutCall)) := ⟨tb3_in (i := 207) rfl, rfl⟩
theorem l_Driver_136 : gd (.methodLink "SuperDriver$Driver" 136 (my M_Signs_partsOf)) := ⟨tb3_in (i := 211) rfl, rfl⟩
theorem l_Driver_111 : gd (.methodLink "SuperDriver$Driver" 111 (my M_Node_become)) := ⟨tb3_in (i := 212) rfl, rfl⟩
theorem l_Driver_139 : gd (.methodLink "SuperDriver$Driver" 139 (my M_Signs_behind)) := ⟨tb3_in (i := 213) rfl, rfl⟩
theorem l_Driver_93 : gd (.methodLink "SuperDriver$Driver" 93 (my M_Signs_nextCall)) := ⟨tb3_in (i := 217) rfl, rfl⟩
theorem l_Signs_56 : gd (.methodLink "SuperDriver$Signs" 56 (my M_Signs_isCased)) := ⟨tb3_in (i := 221) rfl, rfl⟩
theorem l_Driver_99 : gd (.methodLink "SuperDriver$Driver" 99 (my M_Program_unfolds)) := ⟨tb3_in (i := 222) rfl, rfl⟩
theorem sm_Program_unfolds : gd (.sameMethod "SuperDriver$Program" "SuperDriver$Program" "unfolds" "(LSuperDriver$Row;I)Z") := ⟨tb3_in (i := 224) rfl, rfl⟩
theorem l_Program_19 : gd (.methodLink "SuperDriver$Program" 19 (my M_Program_constructorAskedFor)) := ⟨tb3_in (i := 228) rfl, rfl⟩
theorem l_Program_23 : gd (.methodLink "SuperDriver$Program" 23 (my M_Row_at)) := ⟨tb3_in (i := 232) rfl, rfl⟩
theorem l_Program_29 : gd (.methodLink "SuperDriver$Program" 29 (my M_Signs_isCased)) := ⟨tb3_in (i := 233) rfl, rfl⟩
theorem ln_Program_76 : Cond.methodLinkNest "SuperDriver$Program" 76 (my M_SD_isConstructor) "SuperDriver" ∈ lw_tbl := tb3_in (i := 234) rfl
theorem l_Program_35 : gd (.methodLink "SuperDriver$Program" 35 ⟨"SuperDriver$Program", "bodyOf", "(II)LSuperDriver$Row;"⟩) := ⟨tb3_in (i := 235) rfl, rfl⟩
theorem dc_Program_bodyOf : Cond.declares ⟨"SuperDriver$Program", "bodyOf", "(II)LSuperDriver$Row;"⟩ ∈ lw_tbl := tb3_in (i := 236) rfl
theorem sm_Program_bodyOf : gd (.sameMethod "SuperDriver$Program" "SuperDriver$Program" "bodyOf" "(II)LSuperDriver$Row;") := ⟨tb3_in (i := 237) rfl, rfl⟩
theorem so_ResidualProgram_bodyOf : gd (.selects "SuperDriver$ResidualProgram" ⟨"SuperDriver$Program", "bodyOf", "(II)LSuperDriver$Row;"⟩ (my M_ResidualProgram_bodyOf)) := ⟨tb3_in (i := 238) rfl, rfl⟩
theorem l_ResidualProgram_15 : gd (.methodLink "SuperDriver$ResidualProgram" 15 (my M_Tree_get)) := ⟨tb4_in (i := 1) rfl, rfl⟩
theorem l_ResidualProgram_56 : gd (.methodLink "SuperDriver$ResidualProgram" 56 (my M_ResidualProgram_clauseBelow)) := ⟨tb4_in (i := 2) rfl, rfl⟩
theorem so_SourceProgram_bodyOf : gd (.selects "SuperDriver$SourceProgram" ⟨"SuperDriver$Program", "bodyOf", "(II)LSuperDriver$Row;"⟩ (my M_SourceProgram_bodyOf)) := ⟨tb4_in (i := 5) rfl, rfl⟩
theorem l_SourceProgram_67 : gd (.methodLink "SuperDriver$SourceProgram" 67 (my M_Row_isEmpty)) := ⟨tb4_in (i := 8) rfl, rfl⟩
theorem l_Driver_105 : gd (.methodLink "SuperDriver$Driver" 105 (my M_Signs_isCased)) := ⟨tb4_in (i := 9) rfl, rfl⟩
theorem ln_Driver_108 : Cond.methodLinkNest "SuperDriver$Driver" 108 (my M_SD_isVariable) "SuperDriver" ∈ lw_tbl := tb4_in (i := 10) rfl
theorem l_Driver_115 : gd (.methodLink "SuperDriver$Driver" 115 (my M_Driver_renamedRival)) := ⟨tb4_in (i := 11) rfl, rfl⟩
theorem l_Driver_143 : gd (.methodLink "SuperDriver$Driver" 143 (my M_Driver_nextRival)) := ⟨tb4_in (i := 14) rfl, rfl⟩
theorem l_Driver_146 : gd (.methodLink "SuperDriver$Driver" 146 (my M_Row_isRenamingOf)) := ⟨tb4_in (i := 17) rfl, rfl⟩
theorem l_Row_45 : gd (.methodLink "SuperDriver$Row" 45 (my M_Row_at)) := ⟨tb4_in (i := 21) rfl, rfl⟩
theorem ln_Row_49 : Cond.methodLinkNest "SuperDriver$Row" 49 (my M_SD_isVariable) "SuperDriver" ∈ lw_tbl := tb4_in (i := 22) rfl
theorem l_Row_53 : gd (.methodLink "SuperDriver$Row" 53 (my M_Row_indexOf)) := ⟨tb4_in (i := 23) rfl, rfl⟩
theorem l_Driver_119 : gd (.methodLink "SuperDriver$Driver" 119 (my M_Driver_embeddedRival)) := ⟨tb4_in (i := 27) rfl, rfl⟩
theorem l_Driver_150 : gd (.methodLink "SuperDriver$Driver" 150 (my M_Signs_isEmbedded)) := ⟨tb4_in (i := 31) rfl, rfl⟩
theorem l_Signs_59 : gd (.methodLink "SuperDriver$Signs" 59 (my M_Row_isEmpty)) := ⟨tb4_in (i := 35) rfl, rfl⟩
theorem l_Signs_63 : gd (.methodLink "SuperDriver$Signs" 63 (my M_Signs_findEnds)) := ⟨tb4_in (i := 36) rfl, rfl⟩
theorem l_Signs_82 : gd (.methodLink "SuperDriver$Signs" 82 ⟨"java/lang/Math", "min", "(II)I"⟩) := ⟨tb4_in (i := 40) rfl, rfl⟩
theorem l_Signs_67 : gd (.methodLink "SuperDriver$Signs" 67 (my M_Signs_embeddedInParts)) := ⟨tb4_in (i := 41) rfl, rfl⟩
theorem l_Signs_71 : gd (.methodLink "SuperDriver$Signs" 71 (my M_Signs_couples)) := ⟨tb4_in (i := 45) rfl, rfl⟩
theorem ln_Signs_79 : Cond.methodLinkNest "SuperDriver$Signs" 79 (my M_SD_isVariable) "SuperDriver" ∈ lw_tbl := tb4_in (i := 49) rfl
theorem l_Signs_75 : gd (.methodLink "SuperDriver$Signs" 75 (my M_Signs_isMarked)) := ⟨tb4_in (i := 50) rfl, rfl⟩
theorem l_Driver_122 : gd (.methodLink "SuperDriver$Driver" 122 (my M_Node_fold)) := ⟨tb4_in (i := 54) rfl, rfl⟩
theorem l_Driver_125 : gd (.methodLink "SuperDriver$Driver" 125 (my M_Generaliser_generalise)) := ⟨tb4_in (i := 58) rfl, rfl⟩
theorem l_Generaliser_42 : gd (.methodLink "SuperDriver$Generaliser" 42 (my M_Row_clear)) := ⟨tb4_in (i := 62) rfl, rfl⟩
theorem l_Generaliser_50 : gd (.methodLink "SuperDriver$Generaliser" 50 (my M_Row_at)) := ⟨tb4_in (i := 63) rfl, rfl⟩
theorem l_Generaliser_54 : gd (.methodLink "SuperDriver$Generaliser" 54 (my M_Generaliser_takeApart)) := ⟨tb4_in (i := 64) rfl, rfl⟩
theorem l_Generaliser_76 : gd (.methodLink "SuperDriver$Generaliser" 76 (my M_Row_add)) := ⟨tb4_in (i := 68) rfl, rfl⟩
theorem l_Generaliser_79 : gd (.methodLink "SuperDriver$Generaliser" 79 (my M_Signs_partsOf)) := ⟨tb4_in (i := 69) rfl, rfl⟩
theorem l_Generaliser_84 : gd (.methodLink "SuperDriver$Generaliser" 84 (my M_Generaliser_newVariable)) := ⟨tb4_in (i := 70) rfl, rfl⟩
theorem l_Generaliser_104 : gd (.methodLink "SuperDriver$Generaliser" 104 (my M_Tree_newVariable)) := ⟨tb4_in (i := 74) rfl, rfl⟩
theorem l_Generaliser_88 : gd (.methodLink "SuperDriver$Generaliser" 88 (my M_Signs_behind)) := ⟨tb4_in (i := 78) rfl, rfl⟩
theorem l_Generaliser_58 : gd (.methodLink "SuperDriver$Generaliser" 58 (my M_Generaliser_let)) := ⟨tb4_in (i := 79) rfl, rfl⟩
theorem l_Generaliser_106 : gd (.methodLink "SuperDriver$Generaliser" 106 (my M_Node_become)) := ⟨tb4_in (i := 83) rfl, rfl⟩
theorem l_Generaliser_92 : gd (.methodLink "SuperDriver$Generaliser" 92 (my M_Row_length)) := ⟨tb4_in (i := 84) rfl, rfl⟩
theorem l_Generaliser_113 : gd (.methodLink "SuperDriver$Generaliser" 113 (my M_Tree_add)) := ⟨tb4_in (i := 85) rfl, rfl⟩
theorem l_Generaliser_62 : gd (.methodLink "SuperDriver$Generaliser" 62 (my M_Generaliser_takeCommon)) := ⟨tb4_in (i := 86) rfl, rfl⟩
theorem l_Generaliser_96 : gd (.methodLink "SuperDriver$Generaliser" 96 (my M_Generaliser_metBefore)) := ⟨tb4_in (i := 90) rfl, rfl⟩
theorem l_Generaliser_100 : gd (.methodLink "SuperDriver$Generaliser" 100 (my M_Row_repeats)) := ⟨tb4_in (i := 94) rfl, rfl⟩
theorem l_Generaliser_66 : gd (.methodLink "SuperDriver$Generaliser" 66 (my M_Row_isRenamingOf)) := ⟨tb4_in (i := 98) rfl, rfl⟩
theorem l_Generaliser_70 : gd (.methodLink "SuperDriver$Generaliser" 70 (my M_Tree_removeBelow)) := ⟨tb4_in (i := 99) rfl, rfl⟩
theorem l_Tree_48 : gd (.methodLink "SuperDriver$Tree" 48 (my M_Tree_get)) := ⟨tb4_in (i := 103) rfl, rfl⟩
theorem l_Tree_52 : gd (.methodLink "SuperDriver$Tree" 52 (my M_Node_isBelow)) := ⟨tb4_in (i := 104) rfl, rfl⟩
theorem l_Tree_56 : gd (.methodLink "SuperDriver$Tree" 56 (my M_Node_become)) := ⟨tb4_in (i := 108) rfl, rfl⟩
theorem l_Tree_60 : gd (.methodLink "SuperDriver$Tree" 60 (my M_Node_dropBelow)) := ⟨tb4_in (i := 109) rfl, rfl⟩
theorem l_Driver_129 : gd (.methodLink "SuperDriver$Driver" 129 (my M_Driver_step)) := ⟨tb4_in (i := 110) rfl, rfl⟩
theorem l_Driver_158 : gd (.methodLink "SuperDriver$Driver" 158 (my M_Program_unfold)) := ⟨tb4_in (i := 114) rfl, rfl⟩
theorem sm_Program_unfold : gd (.sameMethod "SuperDriver$Program" "SuperDriver$Program" "unfold" "(LSuperDriver$Row;ILSuperDriver$Row;)V") := ⟨tb4_in (i := 116) rfl, rfl⟩
theorem l_Program_39 : gd (.methodLink "SuperDriver$Program" 39 (my M_Signs_partsOf)) := ⟨tb4_in (i := 120) rfl, rfl⟩
theorem ln_Program_42 : Cond.methodLinkNest "SuperDriver$Program" 42 (my M_SD_partsOfConstructor) "SuperDriver" ∈ lw_tbl := tb4_in (i := 121) rfl
theorem l_Program_45 : gd (.methodLink "SuperDriver$Program" 45 (my M_Substitution_begin)) := ⟨tb4_in (i := 122) rfl, rfl⟩
theorem l_Program_50 : gd (.methodLink "SuperDriver$Program" 50 (my M_Signs_behind)) := ⟨tb4_in (i := 126) rfl, rfl⟩
theorem l_Program_53 : gd (.methodLink "SuperDriver$Program" 53 ⟨"SuperDriver$Program", "variableOf", "(III)I"⟩) := ⟨tb4_in (i := 127) rfl, rfl⟩
theorem dc_Program_variableOf : Cond.declares ⟨"SuperDriver$Program", "variableOf", "(III)I"⟩ ∈ lw_tbl := tb4_in (i := 128) rfl
theorem sm_Program_variableOf : gd (.sameMethod "SuperDriver$Program" "SuperDriver$Program" "variableOf" "(III)I") := ⟨tb4_in (i := 129) rfl, rfl⟩
theorem so_ResidualProgram_variableOf : gd (.selects "SuperDriver$ResidualProgram" ⟨"SuperDriver$Program", "variableOf", "(III)I"⟩ (my M_ResidualProgram_variableOf)) := ⟨tb4_in (i := 130) rfl, rfl⟩
theorem l_ResidualProgram_60 : gd (.methodLink "SuperDriver$ResidualProgram" 60 (my M_Row_at)) := ⟨tb4_in (i := 133) rfl, rfl⟩
theorem ln_ResidualProgram_64 : Cond.methodLinkNest "SuperDriver$ResidualProgram" 64 (my M_SD_partsOfConstructor) "SuperDriver" ∈ lw_tbl := tb4_in (i := 134) rfl
theorem so_SourceProgram_variableOf : gd (.selects "SuperDriver$SourceProgram" ⟨"SuperDriver$Program", "variableOf", "(III)I"⟩ (my M_SourceProgram_variableOf)) := ⟨tb4_in (i := 135) rfl, rfl⟩
theorem l_Program_57 : gd (.methodLink "SuperDriver$Program" 57 (my M_Substitution_bind)) := ⟨tb4_in (i := 138) rfl, rfl⟩
theorem ln_Substitution_31 : Cond.methodLinkNest "SuperDriver$Substitution" 31 (my M_SD_isVariable) "SuperDriver" ∈ lw_tbl := tb4_in (i := 142) rfl
theorem l_Program_61 : gd (.methodLink "SuperDriver$Program" 61 (my M_Row_clear)) := ⟨tb4_in (i := 143) rfl, rfl⟩
theorem l_Program_64 : gd (.methodLink "SuperDriver$Program" 64 (my M_Row_addRange)) := ⟨tb4_in (i := 144) rfl, rfl⟩
theorem l_Program_68 : gd (.methodLink "SuperDriver$Program" 68 (my M_Substitution_apply)) := ⟨tb4_in (i := 145) rfl, rfl⟩
theorem l_Substitution_35 : gd (.methodLink "SuperDriver$Substitution" 35 (my M_Row_length)) := ⟨tb4_in (i := 149) rfl, rfl⟩
theorem l_Substitution_39 : gd (.methodLink "SuperDriver$Substitution" 39 (my M_Row_isTooLong)) := ⟨tb4_in (i := 150) rfl, rfl⟩
theorem l_Substitution_43 : gd (.methodLink "SuperDriver$Substitution" 43 (my M_Row_at)) := ⟨tb4_in (i := 151) rfl, rfl⟩
theorem l_Substitution_47 : gd (.methodLink "SuperDriver$Substitution" 47 (my M_Row_addRange)) := ⟨tb4_in (i := 152) rfl, rfl⟩
theorem l_Substitution_51 : gd (.methodLink "SuperDriver$Substitution" 51 (my M_Row_add)) := ⟨tb4_in (i := 153) rfl, rfl⟩
theorem l_Program_72 : gd (.methodLink "SuperDriver$Program" 72 (my M_Row_length)) := ⟨tb4_in (i := 154) rfl, rfl⟩
theorem l_Driver_133 : gd (.methodLink "SuperDriver$Driver" 133 (my M_Driver_split)) := ⟨tb4_in (i := 155) rfl, rfl⟩
theorem l_Driver_162 : gd (.methodLink "SuperDriver$Driver" 162 ⟨"SuperDriver$Program", "bodyOf", "(II)LSuperDriver$Row;"⟩) := ⟨tb4_in (i := 159) rfl, rfl⟩
theorem l_Driver_166 : gd (.methodLink "SuperDriver$Driver" 166 (my M_Driver_addClause)) := ⟨tb4_in (i := 160) rfl, rfl⟩
theorem l_Driver_170 : gd (.methodLink "SuperDriver$Driver" 170 (my M_Row_clear)) := ⟨tb4_in (i := 164) rfl, rfl⟩
theorem l_Driver_171 : gd (.methodLink "SuperDriver$Driver" 171 (my M_Row_add)) := ⟨tb4_in (i := 165) rfl, rfl⟩
theorem ln_Driver_173 : Cond.methodLinkNest "SuperDriver$Driver" 173 (my M_SD_partsOfConstructor) "SuperDriver" ∈ lw_tbl := tb4_in (i := 166) rfl
theorem l_Driver_176 : gd (.methodLink "SuperDriver$Driver" 176 (my M_Tree_newVariable)) := ⟨tb4_in (i := 167) rfl, rfl⟩
theorem l_Driver_179 : gd (.methodLink "SuperDriver$Driver" 179 (my M_Substitution_begin)) := ⟨tb4_in (i := 168) rfl, rfl⟩
theorem l_Driver_184 : gd (.methodLink "SuperDriver$Driver" 184 (my M_Substitution_bind)) := ⟨tb4_in (i := 169) rfl, rfl⟩
theorem l_Driver_188 : gd (.methodLink "SuperDriver$Driver" 188 (my M_Substitution_apply)) := ⟨tb4_in (i := 170) rfl, rfl⟩
theorem l_SD_157 : gd (.methodLink "SuperDriver" 157 (my M_Tree_isTooGreat)) := ⟨tb4_in (i := 171) rfl, rfl⟩
theorem l_SD_160 : gd (.methodLink "SuperDriver" 160 (my M_ResidualProgram_write)) := ⟨tb4_in (i := 172) rfl, rfl⟩
theorem l_ResidualProgram_27 : gd (.methodLink "SuperDriver$ResidualProgram" 27 (my M_ResidualProgram_markFunctions)) := ⟨tb4_in (i := 176) rfl, rfl⟩
theorem l_ResidualProgram_31 : gd (.methodLink "SuperDriver$ResidualProgram" 31 (my M_Tree_count)) := ⟨tb4_in (i := 180) rfl, rfl⟩
theorem l_ResidualProgram_39 : gd (.methodLink "SuperDriver$ResidualProgram" 39 (my M_ResidualProgram_writeOwnCall)) := ⟨tb4_in (i := 181) rfl, rfl⟩
theorem l_ResidualProgram_86 : gd (.methodLink "SuperDriver$ResidualProgram" 86 (my M_Row_add)) := ⟨tb4_in (i := 185) rfl, rfl⟩
theorem l_ResidualProgram_96 : gd (.methodLink "SuperDriver$ResidualProgram" 96 (my M_Row_length)) := ⟨tb4_in (i := 186) rfl, rfl⟩
theorem ln_ResidualProgram_99 : Cond.methodLinkNest "SuperDriver$ResidualProgram" 99 (my M_SD_isVariable) "SuperDriver" ∈ lw_tbl := tb4_in (i := 187) rfl
theorem l_ResidualProgram_103 : gd (.methodLink "SuperDriver$ResidualProgram" 103 (my M_Row_indexOf)) := ⟨tb4_in (i := 188) rfl, rfl⟩
theorem l_ResidualProgram_110 : gd (.methodLink "SuperDriver$ResidualProgram" 110 (my M_Signs_shape)) := ⟨tb4_in (i := 189) rfl, rfl⟩
theorem l_ResidualProgram_43 : gd (.methodLink "SuperDriver$ResidualProgram" 43 (my M_ResidualProgram_writeInline)) := ⟨tb4_in (i := 190) rfl, rfl⟩
theorem l_ResidualProgram_116 : gd (.methodLink "SuperDriver$ResidualProgram" 116 (my M_Row_copy)) := ⟨tb4_in (i := 194) rfl, rfl⟩
theorem l_ResidualProgram_120 : gd (.methodLink "SuperDriver$ResidualProgram" 120 (my M_ResidualProgram_addAllBelow)) := ⟨tb4_in (i := 195) rfl, rfl⟩
theorem l_ResidualProgram_129 : gd (.methodLink "SuperDriver$ResidualProgram" 129 (my M_Row_addRange)) := ⟨tb4_in (i := 198) rfl, rfl⟩
theorem l_ResidualProgram_123 : gd (.methodLink "SuperDriver$ResidualProgram" 123 (my M_ResidualProgram_writeFold)) := ⟨tb4_in (i := 199) rfl, rfl⟩
theorem l_ResidualProgram_126 : gd (.methodLink "SuperDriver$ResidualProgram" 126 (my M_ResidualProgram_writeLet)) := ⟨tb4_in (i := 202) rfl, rfl⟩
theorem l_ResidualProgram_137 : gd (.methodLink "SuperDriver$ResidualProgram" 137 (my M_Substitution_begin)) := ⟨tb4_in (i := 206) rfl, rfl⟩
theorem l_ResidualProgram_145 : gd (.methodLink "SuperDriver$ResidualProgram" 145 (my M_Substitution_bind)) := ⟨tb4_in (i := 207) rfl, rfl⟩
theorem l_ResidualProgram_149 : gd (.methodLink "SuperDriver$ResidualProgram" 149 (my M_Substitution_apply)) := ⟨tb4_in (i := 208) rfl, rfl⟩
theorem l_ResidualProgram_46 : gd (.methodLink "SuperDriver$ResidualProgram" 46 (my M_Row_isTooLong)) := ⟨tb4_in (i := 209) rfl, rfl⟩
theorem l_SD_167 : gd (.methodLink "SuperDriver" 167 ⟨"java/lang/UnsupportedOperationException", "<init>", "(Ljava/lang/String;)V"⟩) := ⟨tb4_in (i := 220) rfl, rfl⟩
theorem l_Law_92 : gd (.methodLink "SuperDriverLaw" 92 (my M_Law_run)) := ⟨tb4_in (i := 226) rfl, rfl⟩
theorem l_Law_30 : gd (.methodLink "SuperDriverLaw" 30 (my M_SD_run)) := ⟨tb4_in (i := 229) rfl, rfl⟩
theorem l_SD_203 : gd (.methodLink "SuperDriver" 203 (my M_ResidualProgram_start)) := ⟨tb4_in (i := 234) rfl, rfl⟩
theorem l_SD_207 : gd (.methodLink "SuperDriver" 207 (my M_SD_allInputsAreThere)) := ⟨tb4_in (i := 238) rfl, rfl⟩
theorem l_SD_212 : gd (.methodLink "SuperDriver" 212 (my M_Runner_begin)) := ⟨tb5_in (i := 3) rfl, rfl⟩
theorem l_Runner_38 : gd (.methodLink "SuperDriver$Runner" 38 (my M_Substitution_begin)) := ⟨tb5_in (i := 7) rfl, rfl⟩
theorem l_Runner_47 : gd (.methodLink "SuperDriver$Runner" 47 (my M_Substitution_bind)) := ⟨tb5_in (i := 8) rfl, rfl⟩
theorem l_Runner_51 : gd (.methodLink "SuperDriver$Runner" 51 (my M_Row_clear)) := ⟨tb5_in (i := 9) rfl, rfl⟩
theorem l_Runner_54 : gd (.methodLink "SuperDriver$Runner" 54 (my M_Substitution_apply)) := ⟨tb5_in (i := 10) rfl, rfl⟩
theorem l_SD_215 : gd (.methodLink "SuperDriver" 215 (my M_Runner_go)) := ⟨tb5_in (i := 11) rfl, rfl⟩
theorem l_Runner_58 : gd (.methodLink "SuperDriver$Runner" 58 (my M_Signs_nextCall)) := ⟨tb5_in (i := 15) rfl, rfl⟩
theorem l_Runner_64 : gd (.methodLink "SuperDriver$Runner" 64 (my M_Runner_judge)) := ⟨tb5_in (i := 16) rfl, rfl⟩
theorem l_Runner_82 : gd (.methodLink "SuperDriver$Runner" 82 (my M_Row_isTooLong)) := ⟨tb5_in (i := 20) rfl, rfl⟩
theorem l_Runner_86 : gd (.methodLink "SuperDriver$Runner" 86 (my M_Program_unfolds)) := ⟨tb5_in (i := 21) rfl, rfl⟩
theorem l_Runner_68 : gd (.methodLink "SuperDriver$Runner" 68 (my M_Program_unfold)) := ⟨tb5_in (i := 22) rfl, rfl⟩
theorem cl_Law_35 : gd (.classLink "SuperDriverLaw" 35 "SuperDriverModel") := ⟨tb5_in (i := 23) rfl, rfl⟩
theorem ins_Mo : gd (.instantiable "SuperDriverModel" 47) := ⟨tb5_in (i := 24) rfl, rfl⟩
theorem l_Law_37 : gd (.methodLink "SuperDriverLaw" 37 (my M_Mo_init)) := ⟨tb5_in (i := 25) rfl, rfl⟩
theorem l_Mo_1 : gd (.methodLink "SuperDriverModel" 1 ⟨"java/lang/Object", "<init>", "()V"⟩) := ⟨tb5_in (i := 28) rfl, rfl⟩
theorem l_Law_59 : gd (.methodLink "SuperDriverLaw" 59 (my M_Mo_thrown)) := ⟨tb5_in (i := 171) rfl, rfl⟩
theorem l_Law_44 : gd (.methodLink "SuperDriverLaw" 44 (my M_Mo_type)) := ⟨tb5_in (i := 175) rfl, rfl⟩
theorem l_Mo_132 : gd (.methodLink "SuperDriverModel" 132 (my M_Mo_signOf)) := ⟨tb5_in (i := 180) rfl, rfl⟩
theorem l_Law_48 : gd (.methodLink "SuperDriverLaw" 48 (my M_Mo_wipe)) := ⟨tb5_in (i := 183) rfl, rfl⟩
theorem l_Law_52 : gd (.methodLink "SuperDriverLaw" 52 (my M_Mo_forget)) := ⟨tb5_in (i := 187) rfl, rfl⟩
theorem l_Law_58 : gd (.methodLink "SuperDriverLaw" 58 (my M_Mo_function)) := ⟨tb5_in (i := 191) rfl, rfl⟩
theorem l_Mo_145 : gd (.methodLink "SuperDriverModel" 145 (my M_Mo_throwing)) := ⟨tb5_in (i := 195) rfl, rfl⟩
theorem l_Law_65 : gd (.methodLink "SuperDriverLaw" 65 (my M_Mo_body)) := ⟨tb5_in (i := 199) rfl, rfl⟩
theorem l_Mo_120 : gd (.methodLink "SuperDriverModel" 120 (my M_Mo_builtOf)) := ⟨tb5_in (i := 203) rfl, rfl⟩
theorem l_Mo_149 : gd (.methodLink "SuperDriverModel" 149 (my M_Mo_isTerm)) := ⟨tb5_in (i := 206) rfl, rfl⟩
theorem l_Mo_124 : gd (.methodLink "SuperDriverModel" 124 (my M_Mo_partsOf)) := ⟨tb5_in (i := 210) rfl, rfl⟩
theorem l_Mo_153 : gd (.methodLink "SuperDriverModel" 153 (my M_Mo_takeText)) := ⟨tb5_in (i := 214) rfl, rfl⟩
theorem l_Law_69 : gd (.methodLink "SuperDriverLaw" 69 (my M_Mo_goal)) := ⟨tb5_in (i := 218) rfl, rfl⟩
theorem l_Law_74 : gd (.methodLink "SuperDriverLaw" 74 (my M_Mo_input)) := ⟨tb5_in (i := 222) rfl, rfl⟩
theorem l_Law_78 : gd (.methodLink "SuperDriverLaw" 78 (my M_Mo_drive)) := ⟨tb5_in (i := 226) rfl, rfl⟩
theorem l_Mo_205 : gd (.methodLink "SuperDriverModel" 205 (my M_Mo_add)) := ⟨tb5_in (i := 230) rfl, rfl⟩
theorem l_Mo_257 : gd (.methodLink "SuperDriverModel" 257 (my M_Mo_turn)) := ⟨tb5_in (i := 234) rfl, rfl⟩
theorem l_Mo_201 : gd (.methodLink "SuperDriverModel" 201 (my M_Mo_becomes)) := ⟨tb5_in (i := 238) rfl, rfl⟩
theorem l_Mo_237 : gd (.methodLink "SuperDriverModel" 237 (my M_Mo_build)) := ⟨tb6_in (i := 2) rfl, rfl⟩
theorem l_Mo_164 : gd (.methodLink "SuperDriverModel" 164 (my M_Mo_end)) := ⟨tb6_in (i := 6) rfl, rfl⟩
theorem l_Mo_240 : gd (.methodLink "SuperDriverModel" 240 (my M_Mo_load)) := ⟨tb6_in (i := 10) rfl, rfl⟩
theorem l_Mo_243 : gd (.methodLink "SuperDriverModel" 243 (my M_Mo_nextCall)) := ⟨tb6_in (i := 14) rfl, rfl⟩
theorem l_Mo_160 : gd (.methodLink "SuperDriverModel" 160 (my M_Mo_isCased)) := ⟨tb6_in (i := 18) rfl, rfl⟩
theorem l_Mo_171 : gd (.methodLink "SuperDriverModel" 171 (my M_Mo_bodyOf)) := ⟨tb6_in (i := 22) rfl, rfl⟩
theorem l_Mo_247 : gd (.methodLink "SuperDriverModel" 247 (my M_Mo_rival)) := ⟨tb6_in (i := 26) rfl, rfl⟩
theorem l_Mo_194 : gd (.methodLink "SuperDriverModel" 194 (my M_Mo_isEmbedded)) := ⟨tb6_in (i := 30) rfl, rfl⟩
theorem l_Mo_190 : gd (.methodLink "SuperDriverModel" 190 (my M_Mo_areParts)) := ⟨tb6_in (i := 34) rfl, rfl⟩
theorem l_Mo_198 : gd (.methodLink "SuperDriverModel" 198 (my M_Mo_isRenaming)) := ⟨tb6_in (i := 38) rfl, rfl⟩
theorem l_Mo_186 : gd (.methodLink "SuperDriverModel" 186 (my M_Mo_renames)) := ⟨tb6_in (i := 42) rfl, rfl⟩
theorem l_Mo_251 : gd (.methodLink "SuperDriverModel" 251 (my M_Mo_generalise)) := ⟨tb6_in (i := 46) rfl, rfl⟩
theorem l_Mo_209 : gd (.methodLink "SuperDriverModel" 209 (my M_Mo_renew)) := ⟨tb6_in (i := 50) rfl, rfl⟩
theorem l_Mo_226 : gd (.methodLink "SuperDriverModel" 226 (my M_Mo_differ)) := ⟨tb6_in (i := 54) rfl, rfl⟩
theorem l_Mo_219 : gd (.methodLink "SuperDriverModel" 219 (my M_Mo_alike)) := ⟨tb6_in (i := 58) rfl, rfl⟩
theorem l_Mo_230 : gd (.methodLink "SuperDriverModel" 230 (my M_Mo_goBelow)) := ⟨tb6_in (i := 62) rfl, rfl⟩
theorem l_Mo_233 : gd (.methodLink "SuperDriverModel" 233 (my M_Mo_let)) := ⟨tb6_in (i := 66) rfl, rfl⟩
theorem l_Mo_212 : gd (.methodLink "SuperDriverModel" 212 (my M_Mo_unfold)) := ⟨tb6_in (i := 70) rfl, rfl⟩
theorem l_Mo_174 : gd (.methodLink "SuperDriverModel" 174 (my M_Mo_bind)) := ⟨tb6_in (i := 74) rfl, rfl⟩
theorem l_Mo_167 : gd (.methodLink "SuperDriverModel" 167 (my M_Mo_stand)) := ⟨tb6_in (i := 78) rfl, rfl⟩
theorem l_Mo_254 : gd (.methodLink "SuperDriverModel" 254 (my M_Mo_split)) := ⟨tb6_in (i := 82) rfl, rfl⟩
theorem l_Mo_260 : gd (.methodLink "SuperDriverModel" 260 (my M_Mo_lowestOpen)) := ⟨tb6_in (i := 86) rfl, rfl⟩
theorem l_Mo_263 : gd (.methodLink "SuperDriverModel" 263 (my M_Mo_findFunctions)) := ⟨tb6_in (i := 90) rfl, rfl⟩
theorem l_Mo_269 : gd (.methodLink "SuperDriverModel" 269 (my M_Mo_hold)) := ⟨tb6_in (i := 94) rfl, rfl⟩
theorem l_Mo_266 : gd (.methodLink "SuperDriverModel" 266 (my M_Mo_write)) := ⟨tb6_in (i := 98) rfl, rfl⟩
theorem l_Mo_275 : gd (.methodLink "SuperDriverModel" 275 (my M_Mo_putCall)) := ⟨tb6_in (i := 102) rfl, rfl⟩
theorem l_Mo_272 : gd (.methodLink "SuperDriverModel" 272 (my M_Mo_put)) := ⟨tb6_in (i := 106) rfl, rfl⟩
theorem l_Mo_278 : gd (.methodLink "SuperDriverModel" 278 (my M_Mo_putResidual)) := ⟨tb6_in (i := 110) rfl, rfl⟩
theorem l_Law_83 : gd (.methodLink "SuperDriverLaw" 83 (my M_Mo_node)) := ⟨tb6_in (i := 114) rfl, rfl⟩
theorem l_Mo_281 : gd (.methodLink "SuperDriverModel" 281 (my M_Mo_isNode)) := ⟨tb6_in (i := 118) rfl, rfl⟩
theorem l_Law_87 : gd (.methodLink "SuperDriverLaw" 87 (my M_Mo_term)) := ⟨tb6_in (i := 122) rfl, rfl⟩
theorem l_Law_91 : gd (.methodLink "SuperDriverLaw" 91 (my M_Mo_residual)) := ⟨tb6_in (i := 126) rfl, rfl⟩
theorem l_Law_95 : gd (.methodLink "SuperDriverLaw" 95 (my M_Mo_run)) := ⟨tb6_in (i := 130) rfl, rfl⟩
theorem l_Mo_284 : gd (.methodLink "SuperDriverModel" 284 (my M_Mo_hasInputs)) := ⟨tb6_in (i := 134) rfl, rfl⟩
theorem l_Mo_288 : gd (.methodLink "SuperDriverModel" 288 (my M_Mo_begin)) := ⟨tb6_in (i := 138) rfl, rfl⟩
theorem l_Law_100 : gd (.methodLink "SuperDriverLaw" 100 (my M_Mo_result)) := ⟨tb6_in (i := 142) rfl, rfl⟩
theorem l_Law_104 : gd (.methodLink "SuperDriverLaw" 104 (my M_Mo_steps)) := ⟨tb6_in (i := 146) rfl, rfl⟩
theorem sm_Program_constructorAskedFor : gd (.sameMethod "SuperDriver$Program" "SuperDriver$Program" "constructorAskedFor" "(LSuperDriver$Row;I)I") := ⟨tb6_in (i := 152) rfl, rfl⟩
theorem v_objInit : gd (.instanceMethod Lib.objectInit) := ⟨tb1_in (i := 28) rfl, rfl⟩
theorem k_objInit : gd (.code Lib.objectInit ⟨#[0xb1]⟩ 1 none) := ⟨tb1_in (i := 29) rfl, rfl⟩
theorem z_mmax : gd (.static Lib.Math.max.name) := ⟨tb1_in (i := 37) rfl, rfl⟩
theorem k_mmax : gd (.code Lib.Math.max.name Lib.Math.max.code 2 (some .int)) := ⟨tb1_in (i := 38) rfl, rfl⟩
theorem z_mmin : gd (.static Lib.Math.min.name) := ⟨tb2_in (i := 199) rfl, rfl⟩
theorem k_mmin : gd (.code Lib.Math.min.name Lib.Math.min.code 2 (some .int)) := ⟨tb2_in (i := 200) rfl, rfl⟩
theorem z_copy : gd (.static arraycopyName) := ⟨tb2_in (i := 202) rfl, rfl⟩
theorem nt_copy : gd (.native arraycopyName) := ⟨tb2_in (i := 203) rfl, rfl⟩
theorem w_SD_init_14 : FW "SuperDriver" "<init>" 14 0 0 := ⟨_, _, _, "SuperDriver", kc_SD, by decide, Or.inr ⟨rfl, rfl, rfl, tb2_in (i := 87) rfl, rfl⟩, Or.inl rfl⟩
theorem w_SD_init_18 : FW "SuperDriver" "<init>" 18 0 1 := ⟨_, _, _, "SuperDriver", kc_SD, by decide, Or.inr ⟨rfl, rfl, rfl, tb2_in (i := 88) rfl, rfl⟩, Or.inl rfl⟩
theorem w_SD_init_21 : FW "SuperDriver" "<init>" 21 0 2 := ⟨_, _, _, "SuperDriver", kc_SD, by decide, Or.inr ⟨rfl, rfl, rfl, tb2_in (i := 89) rfl, rfl⟩, Or.inl rfl⟩
theorem f_SD_21 : FR "SuperDriver" 21 0 2 := ⟨_, _, _, "SuperDriver", kc_SD, by decide, Or.inl ⟨tb2_in (i := 89) rfl, rfl⟩, Or.inl rfl⟩
theorem w_SD_init_31 : FW "SuperDriver" "<init>" 31 0 3 := ⟨_, _, _, "SuperDriver", kc_SD, by decide, Or.inr ⟨rfl, rfl, rfl, tb2_in (i := 90) rfl, rfl⟩, Or.inl rfl⟩
theorem f_SD_31 : FR "SuperDriver" 31 0 3 := ⟨_, _, _, "SuperDriver", kc_SD, by decide, Or.inl ⟨tb2_in (i := 90) rfl, rfl⟩, Or.inl rfl⟩
theorem w_SD_init_40 : FW "SuperDriver" "<init>" 40 0 4 := ⟨_, _, _, "SuperDriver", kc_SD, by decide, Or.inr ⟨rfl, rfl, rfl, tb2_in (i := 91) rfl, rfl⟩, Or.inl rfl⟩
theorem w_SD_init_47 : FW "SuperDriver" "<init>" 47 0 5 := ⟨_, _, _, "SuperDriver", kc_SD, by decide, Or.inr ⟨rfl, rfl, rfl, tb2_in (i := 92) rfl, rfl⟩, Or.inl rfl⟩
theorem f_SD_40 : FR "SuperDriver" 40 0 4 := ⟨_, _, _, "SuperDriver", kc_SD, by decide, Or.inl ⟨tb2_in (i := 91) rfl, rfl⟩, Or.inl rfl⟩
theorem f_SD_47 : FR "SuperDriver" 47 0 5 := ⟨_, _, _, "SuperDriver", kc_SD, by decide, Or.inl ⟨tb2_in (i := 92) rfl, rfl⟩, Or.inl rfl⟩
theorem w_SD_init_56 : FW "SuperDriver" "<init>" 56 0 6 := ⟨_, _, _, "SuperDriver", kc_SD, by decide, Or.inr ⟨rfl, rfl, rfl, tb2_in (i := 93) rfl, rfl⟩, Or.inl rfl⟩
theorem w_SD_init_65 : FW "SuperDriver" "<init>" 65 0 7 := ⟨_, _, _, "SuperDriver", kc_SD, by decide, Or.inr ⟨rfl, rfl, rfl, tb2_in (i := 94) rfl, rfl⟩, Or.inl rfl⟩
theorem w_SD_init_72 : FW "SuperDriver" "<init>" 72 0 8 := ⟨_, _, _, "SuperDriver", kc_SD, by decide, Or.inr ⟨rfl, rfl, rfl, tb2_in (i := 95) rfl, rfl⟩, Or.inl rfl⟩
theorem f_SD_18 : FR "SuperDriver" 18 0 1 := ⟨_, _, _, "SuperDriver", kc_SD, by decide, Or.inl ⟨tb2_in (i := 88) rfl, rfl⟩, Or.inl rfl⟩
theorem f_SD_14 : FR "SuperDriver" 14 0 0 := ⟨_, _, _, "SuperDriver", kc_SD, by decide, Or.inl ⟨tb2_in (i := 87) rfl, rfl⟩, Or.inl rfl⟩
theorem f_SD_56 : FR "SuperDriver" 56 0 6 := ⟨_, _, _, "SuperDriver", kc_SD, by decide, Or.inl ⟨tb2_in (i := 93) rfl, rfl⟩, Or.inl rfl⟩
theorem f_SD_65 : FR "SuperDriver" 65 0 7 := ⟨_, _, _, "SuperDriver", kc_SD, by decide, Or.inl ⟨tb2_in (i := 94) rfl, rfl⟩, Or.inl rfl⟩
theorem f_SD_72 : FR "SuperDriver" 72 0 8 := ⟨_, _, _, "SuperDriver", kc_SD, by decide, Or.inl ⟨tb2_in (i := 95) rfl, rfl⟩, Or.inl rfl⟩
theorem f_SD_172 : FR "SuperDriver" 172 6 7 := ⟨_, _, _, "SuperDriver$Node", kc_Node, by decide, Or.inr ⟨"SuperDriver", tb1_in (i := 165) rfl⟩, Or.inl rfl⟩
theorem f_SD_178 : FR "SuperDriver" 178 6 3 := ⟨_, _, _, "SuperDriver$Node", kc_Node, by decide, Or.inr ⟨"SuperDriver", tb1_in (i := 156) rfl⟩, Or.inl rfl⟩
theorem f_SD_182 : FR "SuperDriver" 182 6 0 := ⟨_, _, _, "SuperDriver$Node", kc_Node, by decide, Or.inr ⟨"SuperDriver", tb1_in (i := 145) rfl⟩, Or.inl rfl⟩
theorem f_SD_185 : FR "SuperDriver" 185 6 8 := ⟨_, _, _, "SuperDriver$Node", kc_Node, by decide, Or.inr ⟨"SuperDriver", tb1_in (i := 168) rfl⟩, Or.inl rfl⟩
theorem f_SD_188 : FR "SuperDriver" 188 6 10 := ⟨_, _, _, "SuperDriver$Node", kc_Node, by decide, Or.inr ⟨"SuperDriver", tb1_in (i := 173) rfl⟩, Or.inl rfl⟩
theorem f_SD_198 : FR "SuperDriver" 198 6 2 := ⟨_, _, _, "SuperDriver$Node", kc_Node, by decide, Or.inr ⟨"SuperDriver", tb1_in (i := 153) rfl⟩, Or.inl rfl⟩
theorem f_SD_192 : FR "SuperDriver" 192 6 1 := ⟨_, _, _, "SuperDriver$Node", kc_Node, by decide, Or.inr ⟨"SuperDriver", tb1_in (i := 150) rfl⟩, Or.inl rfl⟩
theorem w_Driver_init_14 : FW "SuperDriver$Driver" "<init>" 14 7 5 := ⟨_, _, _, "SuperDriver$Driver", kc_Driver, by decide, Or.inr ⟨rfl, rfl, rfl, tb2_in (i := 28) rfl, rfl⟩, Or.inl rfl⟩
theorem w_Driver_init_20 : FW "SuperDriver$Driver" "<init>" 20 7 6 := ⟨_, _, _, "SuperDriver$Driver", kc_Driver, by decide, Or.inr ⟨rfl, rfl, rfl, tb2_in (i := 29) rfl, rfl⟩, Or.inl rfl⟩
theorem w_Driver_init_23 : FW "SuperDriver$Driver" "<init>" 23 7 7 := ⟨_, _, _, "SuperDriver$Driver", kc_Driver, by decide, Or.inr ⟨rfl, rfl, rfl, tb2_in (i := 30) rfl, rfl⟩, Or.inl rfl⟩
theorem w_Driver_init_26 : FW "SuperDriver$Driver" "<init>" 26 7 0 := ⟨_, _, _, "SuperDriver$Driver", kc_Driver, by decide, Or.inr ⟨rfl, rfl, rfl, tb2_in (i := 23) rfl, rfl⟩, Or.inl rfl⟩
theorem w_Driver_init_30 : FW "SuperDriver$Driver" "<init>" 30 7 1 := ⟨_, _, _, "SuperDriver$Driver", kc_Driver, by decide, Or.inr ⟨rfl, rfl, rfl, tb2_in (i := 24) rfl, rfl⟩, Or.inl rfl⟩
theorem w_Driver_init_34 : FW "SuperDriver$Driver" "<init>" 34 7 2 := ⟨_, _, _, "SuperDriver$Driver", kc_Driver, by decide, Or.inr ⟨rfl, rfl, rfl, tb2_in (i := 25) rfl, rfl⟩, Or.inl rfl⟩
theorem w_Driver_init_38 : FW "SuperDriver$Driver" "<init>" 38 7 3 := ⟨_, _, _, "SuperDriver$Driver", kc_Driver, by decide, Or.inr ⟨rfl, rfl, rfl, tb2_in (i := 26) rfl, rfl⟩, Or.inl rfl⟩
theorem w_Driver_init_47 : FW "SuperDriver$Driver" "<init>" 47 7 4 := ⟨_, _, _, "SuperDriver$Driver", kc_Driver, by decide, Or.inr ⟨rfl, rfl, rfl, tb2_in (i := 27) rfl, rfl⟩, Or.inl rfl⟩
theorem f_Driver_23 : FR "SuperDriver$Driver" 23 7 7 := ⟨_, _, _, "SuperDriver$Driver", kc_Driver, by decide, Or.inl ⟨tb2_in (i := 30) rfl, rfl⟩, Or.inl rfl⟩
theorem f_Driver_34 : FR "SuperDriver$Driver" 34 7 2 := ⟨_, _, _, "SuperDriver$Driver", kc_Driver, by decide, Or.inl ⟨tb2_in (i := 25) rfl, rfl⟩, Or.inl rfl⟩
theorem f_Driver_38 : FR "SuperDriver$Driver" 38 7 3 := ⟨_, _, _, "SuperDriver$Driver", kc_Driver, by decide, Or.inl ⟨tb2_in (i := 26) rfl, rfl⟩, Or.inl rfl⟩
theorem f_Driver_20 : FR "SuperDriver$Driver" 20 7 6 := ⟨_, _, _, "SuperDriver$Driver", kc_Driver, by decide, Or.inl ⟨tb2_in (i := 29) rfl, rfl⟩, Or.inl rfl⟩
theorem f_Driver_78 : FR "SuperDriver$Driver" 78 6 1 := ⟨_, _, _, "SuperDriver$Node", kc_Node, by decide, Or.inr ⟨"SuperDriver", tb1_in (i := 148) rfl⟩, Or.inl rfl⟩
theorem f_Driver_30 : FR "SuperDriver$Driver" 30 7 1 := ⟨_, _, _, "SuperDriver$Driver", kc_Driver, by decide, Or.inl ⟨tb2_in (i := 24) rfl, rfl⟩, Or.inl rfl⟩
theorem f_Driver_14 : FR "SuperDriver$Driver" 14 7 5 := ⟨_, _, _, "SuperDriver$Driver", kc_Driver, by decide, Or.inl ⟨tb2_in (i := 28) rfl, rfl⟩, Or.inl rfl⟩
theorem w_Driver_m_192 (y : String) : FW "SuperDriver$Driver" y 192 6 11 := ⟨_, _, _, "SuperDriver$Node", kc_Node, by decide, Or.inl ⟨rfl, Or.inr ⟨"SuperDriver", tb1_in (i := 176) rfl⟩⟩, Or.inl rfl⟩
theorem w_Driver_m_195 (y : String) : FW "SuperDriver$Driver" y 195 6 12 := ⟨_, _, _, "SuperDriver$Node", kc_Node, by decide, Or.inl ⟨rfl, Or.inr ⟨"SuperDriver", tb1_in (i := 179) rfl⟩⟩, Or.inl rfl⟩
theorem f_Driver_26 : FR "SuperDriver$Driver" 26 7 0 := ⟨_, _, _, "SuperDriver$Driver", kc_Driver, by decide, Or.inl ⟨tb2_in (i := 23) rfl, rfl⟩, Or.inl rfl⟩
theorem f_Driver_154 : FR "SuperDriver$Driver" 154 6 3 := ⟨_, _, _, "SuperDriver$Node", kc_Node, by decide, Or.inr ⟨"SuperDriver", tb1_in (i := 155) rfl⟩, Or.inl rfl⟩
theorem f_Driver_68 : FR "SuperDriver$Driver" 68 6 7 := ⟨_, _, _, "SuperDriver$Node", kc_Node, by decide, Or.inr ⟨"SuperDriver", tb1_in (i := 163) rfl⟩, Or.inl rfl⟩
theorem f_Driver_47 : FR "SuperDriver$Driver" 47 7 4 := ⟨_, _, _, "SuperDriver$Driver", kc_Driver, by decide, Or.inl ⟨tb2_in (i := 27) rfl, rfl⟩, Or.inl rfl⟩
theorem w_Generaliser_init_14 : FW "SuperDriver$Generaliser" "<init>" 14 8 2 := ⟨_, _, _, "SuperDriver$Generaliser", kc_Generaliser, by decide, Or.inr ⟨rfl, rfl, rfl, tb2_in (i := 3) rfl, rfl⟩, Or.inl rfl⟩
theorem w_Generaliser_init_20 : FW "SuperDriver$Generaliser" "<init>" 20 8 3 := ⟨_, _, _, "SuperDriver$Generaliser", kc_Generaliser, by decide, Or.inr ⟨rfl, rfl, rfl, tb2_in (i := 4) rfl, rfl⟩, Or.inl rfl⟩
theorem w_Generaliser_init_24 : FW "SuperDriver$Generaliser" "<init>" 24 8 4 := ⟨_, _, _, "SuperDriver$Generaliser", kc_Generaliser, by decide, Or.inr ⟨rfl, rfl, rfl, tb2_in (i := 5) rfl, rfl⟩, Or.inl rfl⟩
theorem w_Generaliser_init_27 (y : String) : FW "SuperDriver$Generaliser" y 27 8 5 := ⟨_, _, _, "SuperDriver$Generaliser", kc_Generaliser, by decide, Or.inl ⟨rfl, Or.inl ⟨tb2_in (i := 6) rfl, rfl⟩⟩, Or.inl rfl⟩
theorem w_Generaliser_init_31 (y : String) : FW "SuperDriver$Generaliser" y 31 8 6 := ⟨_, _, _, "SuperDriver$Generaliser", kc_Generaliser, by decide, Or.inl ⟨rfl, Or.inl ⟨tb2_in (i := 7) rfl, rfl⟩⟩, Or.inl rfl⟩
theorem w_Generaliser_init_34 : FW "SuperDriver$Generaliser" "<init>" 34 8 0 := ⟨_, _, _, "SuperDriver$Generaliser", kc_Generaliser, by decide, Or.inr ⟨rfl, rfl, rfl, tb2_in (i := 1) rfl, rfl⟩, Or.inl rfl⟩
theorem w_Generaliser_init_38 : FW "SuperDriver$Generaliser" "<init>" 38 8 1 := ⟨_, _, _, "SuperDriver$Generaliser", kc_Generaliser, by decide, Or.inr ⟨rfl, rfl, rfl, tb2_in (i := 2) rfl, rfl⟩, Or.inl rfl⟩
theorem f_Generaliser_14 : FR "SuperDriver$Generaliser" 14 8 2 := ⟨_, _, _, "SuperDriver$Generaliser", kc_Generaliser, by decide, Or.inl ⟨tb2_in (i := 3) rfl, rfl⟩, Or.inl rfl⟩
theorem w_Generaliser_m_27 (y : String) : FW "SuperDriver$Generaliser" y 27 8 5 := ⟨_, _, _, "SuperDriver$Generaliser", kc_Generaliser, by decide, Or.inl ⟨rfl, Or.inl ⟨tb2_in (i := 6) rfl, rfl⟩⟩, Or.inl rfl⟩
theorem f_Generaliser_45 : FR "SuperDriver$Generaliser" 45 6 1 := ⟨_, _, _, "SuperDriver$Node", kc_Node, by decide, Or.inr ⟨"SuperDriver", tb1_in (i := 147) rfl⟩, Or.inl rfl⟩
theorem f_Generaliser_24 : FR "SuperDriver$Generaliser" 24 8 4 := ⟨_, _, _, "SuperDriver$Generaliser", kc_Generaliser, by decide, Or.inl ⟨tb2_in (i := 5) rfl, rfl⟩, Or.inl rfl⟩
theorem f_Generaliser_38 : FR "SuperDriver$Generaliser" 38 8 1 := ⟨_, _, _, "SuperDriver$Generaliser", kc_Generaliser, by decide, Or.inl ⟨tb2_in (i := 2) rfl, rfl⟩, Or.inl rfl⟩
theorem f_Generaliser_20 : FR "SuperDriver$Generaliser" 20 8 3 := ⟨_, _, _, "SuperDriver$Generaliser", kc_Generaliser, by decide, Or.inl ⟨tb2_in (i := 4) rfl, rfl⟩, Or.inl rfl⟩
theorem f_Generaliser_27 : FR "SuperDriver$Generaliser" 27 8 5 := ⟨_, _, _, "SuperDriver$Generaliser", kc_Generaliser, by decide, Or.inl ⟨tb2_in (i := 6) rfl, rfl⟩, Or.inl rfl⟩
theorem f_Generaliser_31 : FR "SuperDriver$Generaliser" 31 8 6 := ⟨_, _, _, "SuperDriver$Generaliser", kc_Generaliser, by decide, Or.inl ⟨tb2_in (i := 7) rfl, rfl⟩, Or.inl rfl⟩
theorem w_Generaliser_m_110 (y : String) : FW "SuperDriver$Generaliser" y 110 6 13 := ⟨_, _, _, "SuperDriver$Node", kc_Node, by decide, Or.inl ⟨rfl, Or.inr ⟨"SuperDriver", tb1_in (i := 181) rfl⟩⟩, Or.inl rfl⟩
theorem f_Generaliser_34 : FR "SuperDriver$Generaliser" 34 8 0 := ⟨_, _, _, "SuperDriver$Generaliser", kc_Generaliser, by decide, Or.inl ⟨tb2_in (i := 1) rfl, rfl⟩, Or.inl rfl⟩
theorem w_Generaliser_m_31 (y : String) : FW "SuperDriver$Generaliser" y 31 8 6 := ⟨_, _, _, "SuperDriver$Generaliser", kc_Generaliser, by decide, Or.inl ⟨rfl, Or.inl ⟨tb2_in (i := 7) rfl, rfl⟩⟩, Or.inl rfl⟩
theorem w_Node_init_14 : FW "SuperDriver$Node" "<init>" 14 6 1 := ⟨_, _, _, "SuperDriver$Node", kc_Node, by decide, Or.inr ⟨rfl, rfl, rfl, tb1_in (i := 146) rfl, rfl⟩, Or.inl rfl⟩
theorem w_Node_init_20 : FW "SuperDriver$Node" "<init>" 20 6 2 := ⟨_, _, _, "SuperDriver$Node", kc_Node, by decide, Or.inr ⟨rfl, rfl, rfl, tb1_in (i := 151) rfl, rfl⟩, Or.inl rfl⟩
theorem w_Node_init_23 : FW "SuperDriver$Node" "<init>" 23 6 0 := ⟨_, _, _, "SuperDriver$Node", kc_Node, by decide, Or.inr ⟨rfl, rfl, rfl, tb1_in (i := 142) rfl, rfl⟩, Or.inl rfl⟩
theorem w_Node_m_57 (y : String) : FW "SuperDriver$Node" y 57 6 7 := ⟨_, _, _, "SuperDriver$Node", kc_Node, by decide, Or.inl ⟨rfl, Or.inl ⟨tb1_in (i := 162) rfl, rfl⟩⟩, Or.inl rfl⟩
theorem w_Node_m_60 (y : String) : FW "SuperDriver$Node" y 60 6 8 := ⟨_, _, _, "SuperDriver$Node", kc_Node, by decide, Or.inl ⟨rfl, Or.inl ⟨tb1_in (i := 166) rfl, rfl⟩⟩, Or.inl rfl⟩
theorem w_Node_m_63 (y : String) : FW "SuperDriver$Node" y 63 6 9 := ⟨_, _, _, "SuperDriver$Node", kc_Node, by decide, Or.inl ⟨rfl, Or.inl ⟨tb1_in (i := 169) rfl, rfl⟩⟩, Or.inl rfl⟩
theorem w_Node_m_66 (y : String) : FW "SuperDriver$Node" y 66 6 10 := ⟨_, _, _, "SuperDriver$Node", kc_Node, by decide, Or.inl ⟨rfl, Or.inl ⟨tb1_in (i := 171) rfl, rfl⟩⟩, Or.inl rfl⟩
theorem w_Node_m_73 (y : String) : FW "SuperDriver$Node" y 73 6 4 := ⟨_, _, _, "SuperDriver$Node", kc_Node, by decide, Or.inl ⟨rfl, Or.inl ⟨tb1_in (i := 158) rfl, rfl⟩⟩, Or.inl rfl⟩
theorem w_Node_m_70 (y : String) : FW "SuperDriver$Node" y 70 6 5 := ⟨_, _, _, "SuperDriver$Node", kc_Node, by decide, Or.inl ⟨rfl, Or.inl ⟨tb1_in (i := 159) rfl, rfl⟩⟩, Or.inl rfl⟩
theorem f_Node_23 : FR "SuperDriver$Node" 23 6 0 := ⟨_, _, _, "SuperDriver$Node", kc_Node, by decide, Or.inl ⟨tb1_in (i := 142) rfl, rfl⟩, Or.inl rfl⟩
theorem f_Node_34 : FR "SuperDriver$Node" 34 6 3 := ⟨_, _, _, "SuperDriver$Node", kc_Node, by decide, Or.inl ⟨tb1_in (i := 154) rfl, rfl⟩, Or.inl rfl⟩
theorem f_Node_14 : FR "SuperDriver$Node" 14 6 1 := ⟨_, _, _, "SuperDriver$Node", kc_Node, by decide, Or.inl ⟨tb1_in (i := 146) rfl, rfl⟩, Or.inl rfl⟩
theorem f_Node_20 : FR "SuperDriver$Node" 20 6 2 := ⟨_, _, _, "SuperDriver$Node", kc_Node, by decide, Or.inl ⟨tb1_in (i := 151) rfl, rfl⟩, Or.inl rfl⟩
theorem w_Node_m_34 (y : String) : FW "SuperDriver$Node" y 34 6 3 := ⟨_, _, _, "SuperDriver$Node", kc_Node, by decide, Or.inl ⟨rfl, Or.inl ⟨tb1_in (i := 154) rfl, rfl⟩⟩, Or.inl rfl⟩
theorem w_Node_m_38 (y : String) : FW "SuperDriver$Node" y 38 6 6 := ⟨_, _, _, "SuperDriver$Node", kc_Node, by decide, Or.inl ⟨rfl, Or.inl ⟨tb1_in (i := 160) rfl, rfl⟩⟩, Or.inl rfl⟩
theorem w_Node_m_44 (y : String) : FW "SuperDriver$Node" y 44 6 11 := ⟨_, _, _, "SuperDriver$Node", kc_Node, by decide, Or.inl ⟨rfl, Or.inl ⟨tb1_in (i := 174) rfl, rfl⟩⟩, Or.inl rfl⟩
theorem w_Node_m_47 (y : String) : FW "SuperDriver$Node" y 47 6 12 := ⟨_, _, _, "SuperDriver$Node", kc_Node, by decide, Or.inl ⟨rfl, Or.inl ⟨tb1_in (i := 177) rfl, rfl⟩⟩, Or.inl rfl⟩
theorem w_Node_m_50 (y : String) : FW "SuperDriver$Node" y 50 6 13 := ⟨_, _, _, "SuperDriver$Node", kc_Node, by decide, Or.inl ⟨rfl, Or.inl ⟨tb1_in (i := 180) rfl, rfl⟩⟩, Or.inl rfl⟩
theorem f_Node_70 : FR "SuperDriver$Node" 70 6 5 := ⟨_, _, _, "SuperDriver$Node", kc_Node, by decide, Or.inl ⟨tb1_in (i := 159) rfl, rfl⟩, Or.inl rfl⟩
theorem w_Program_init_9_4 : FW "SuperDriver$Program" "<init>" 9 4 1 := ⟨_, _, _, "SuperDriver$Program", kc_SourceProgram, by decide, Or.inr ⟨rfl, rfl, rfl, tb1_in (i := 112) rfl, rfl⟩, Or.inl rfl⟩
theorem w_Program_init_9_9 : FW "SuperDriver$Program" "<init>" 9 9 1 := ⟨_, _, _, "SuperDriver$Program", kc_ResidualProgram, by decide, Or.inr ⟨rfl, rfl, rfl, tb1_in (i := 112) rfl, rfl⟩, Or.inl rfl⟩
theorem w_Program_init_15_4 : FW "SuperDriver$Program" "<init>" 15 4 2 := ⟨_, _, _, "SuperDriver$Program", kc_SourceProgram, by decide, Or.inr ⟨rfl, rfl, rfl, tb1_in (i := 117) rfl, rfl⟩, Or.inl rfl⟩
theorem w_Program_init_15_9 : FW "SuperDriver$Program" "<init>" 15 9 2 := ⟨_, _, _, "SuperDriver$Program", kc_ResidualProgram, by decide, Or.inr ⟨rfl, rfl, rfl, tb1_in (i := 117) rfl, rfl⟩, Or.inl rfl⟩
theorem f_Program_9_4 : FR "SuperDriver$Program" 9 4 1 := ⟨_, _, _, "SuperDriver$Program", kc_SourceProgram, by decide, Or.inl ⟨tb1_in (i := 112) rfl, rfl⟩, Or.inl rfl⟩
theorem f_Program_9_9 : FR "SuperDriver$Program" 9 9 1 := ⟨_, _, _, "SuperDriver$Program", kc_ResidualProgram, by decide, Or.inl ⟨tb1_in (i := 112) rfl, rfl⟩, Or.inl rfl⟩
theorem f_Program_15_4 : FR "SuperDriver$Program" 15 4 2 := ⟨_, _, _, "SuperDriver$Program", kc_SourceProgram, by decide, Or.inl ⟨tb1_in (i := 117) rfl, rfl⟩, Or.inl rfl⟩
theorem f_Program_15_9 : FR "SuperDriver$Program" 15 9 2 := ⟨_, _, _, "SuperDriver$Program", kc_ResidualProgram, by decide, Or.inl ⟨tb1_in (i := 117) rfl, rfl⟩, Or.inl rfl⟩
theorem w_ResidualProgram_init_9 : FW "SuperDriver$ResidualProgram" "<init>" 9 9 0 := ⟨_, _, _, "SuperDriver$ResidualProgram", kc_ResidualProgram, by decide, Or.inr ⟨rfl, rfl, rfl, tb2_in (i := 54) rfl, rfl⟩, Or.inl rfl⟩
theorem f_ResidualProgram_52 : FR "SuperDriver$ResidualProgram" 52 6 4 := ⟨_, _, _, "SuperDriver$Node", kc_Node, by decide, Or.inr ⟨"SuperDriver", tb1_in (i := 157) rfl⟩, Or.inl rfl⟩
theorem f_ResidualProgram_21 : FR "SuperDriver$ResidualProgram" 21 6 2 := ⟨_, _, _, "SuperDriver$Node", kc_Node, by decide, Or.inr ⟨"SuperDriver", tb1_in (i := 152) rfl⟩, Or.inl rfl⟩
theorem f_ResidualProgram_74 : FR "SuperDriver$ResidualProgram" 74 6 6 := ⟨_, _, _, "SuperDriver$Node", kc_Node, by decide, Or.inr ⟨"SuperDriver", tb1_in (i := 161) rfl⟩, Or.inl rfl⟩
theorem f_ResidualProgram_9 : FR "SuperDriver$ResidualProgram" 9 9 0 := ⟨_, _, _, "SuperDriver$ResidualProgram", kc_ResidualProgram, by decide, Or.inl ⟨tb2_in (i := 54) rfl, rfl⟩, Or.inl rfl⟩
theorem f_ResidualProgram_35 : FR "SuperDriver$ResidualProgram" 35 6 10 := ⟨_, _, _, "SuperDriver$Node", kc_Node, by decide, Or.inr ⟨"SuperDriver", tb1_in (i := 172) rfl⟩, Or.inl rfl⟩
theorem f_ResidualProgram_71 : FR "SuperDriver$ResidualProgram" 71 6 11 := ⟨_, _, _, "SuperDriver$Node", kc_Node, by decide, Or.inr ⟨"SuperDriver", tb1_in (i := 175) rfl⟩, Or.inl rfl⟩
theorem f_ResidualProgram_77 : FR "SuperDriver$ResidualProgram" 77 6 7 := ⟨_, _, _, "SuperDriver$Node", kc_Node, by decide, Or.inr ⟨"SuperDriver", tb1_in (i := 164) rfl⟩, Or.inl rfl⟩
theorem w_ResidualProgram_m_35 (y : String) : FW "SuperDriver$ResidualProgram" y 35 6 10 := ⟨_, _, _, "SuperDriver$Node", kc_Node, by decide, Or.inl ⟨rfl, Or.inr ⟨"SuperDriver", tb1_in (i := 172) rfl⟩⟩, Or.inl rfl⟩
theorem f_ResidualProgram_80 : FR "SuperDriver$ResidualProgram" 80 6 9 := ⟨_, _, _, "SuperDriver$Node", kc_Node, by decide, Or.inr ⟨"SuperDriver", tb1_in (i := 170) rfl⟩, Or.inl rfl⟩
theorem f_ResidualProgram_67 : FR "SuperDriver$ResidualProgram" 67 6 12 := ⟨_, _, _, "SuperDriver$Node", kc_Node, by decide, Or.inr ⟨"SuperDriver", tb1_in (i := 178) rfl⟩, Or.inl rfl⟩
theorem f_ResidualProgram_83 : FR "SuperDriver$ResidualProgram" 83 6 0 := ⟨_, _, _, "SuperDriver$Node", kc_Node, by decide, Or.inr ⟨"SuperDriver", tb1_in (i := 144) rfl⟩, Or.inl rfl⟩
theorem f_ResidualProgram_93 : FR "SuperDriver$ResidualProgram" 93 6 1 := ⟨_, _, _, "SuperDriver$Node", kc_Node, by decide, Or.inr ⟨"SuperDriver", tb1_in (i := 149) rfl⟩, Or.inl rfl⟩
theorem f_ResidualProgram_133 : FR "SuperDriver$ResidualProgram" 133 9 2 := ⟨_, _, _, "SuperDriver$ResidualProgram", kc_ResidualProgram, by decide, Or.inl ⟨tb1_in (i := 118) rfl, rfl⟩, Or.inr ⟨tb1_in (i := 119) rfl, rfl⟩⟩
theorem f_ResidualProgram_142 : FR "SuperDriver$ResidualProgram" 142 6 13 := ⟨_, _, _, "SuperDriver$Node", kc_Node, by decide, Or.inr ⟨"SuperDriver", tb1_in (i := 182) rfl⟩, Or.inl rfl⟩
theorem f_ResidualProgram_90 : FR "SuperDriver$ResidualProgram" 90 6 8 := ⟨_, _, _, "SuperDriver$Node", kc_Node, by decide, Or.inr ⟨"SuperDriver", tb1_in (i := 167) rfl⟩, Or.inl rfl⟩
theorem f_ResidualProgram_106 : FR "SuperDriver$ResidualProgram" 106 9 1 := ⟨_, _, _, "SuperDriver$ResidualProgram", kc_ResidualProgram, by decide, Or.inl ⟨tb1_in (i := 115) rfl, rfl⟩, Or.inr ⟨tb1_in (i := 116) rfl, rfl⟩⟩
theorem w_Row_init_15 : FW "SuperDriver$Row" "<init>" 15 1 0 := ⟨_, _, _, "SuperDriver$Row", kc_Row, by decide, Or.inr ⟨rfl, rfl, rfl, tb1_in (i := 39) rfl, rfl⟩, Or.inl rfl⟩
theorem w_Row_init_21 (y : String) : FW "SuperDriver$Row" y 21 1 1 := ⟨_, _, _, "SuperDriver$Row", kc_Row, by decide, Or.inl ⟨rfl, Or.inl ⟨tb1_in (i := 40) rfl, rfl⟩⟩, Or.inl rfl⟩
theorem w_Row_init_25 (y : String) : FW "SuperDriver$Row" y 25 1 2 := ⟨_, _, _, "SuperDriver$Row", kc_Row, by decide, Or.inl ⟨rfl, Or.inl ⟨tb1_in (i := 41) rfl, rfl⟩⟩, Or.inl rfl⟩
theorem f_Row_21 : FR "SuperDriver$Row" 21 1 1 := ⟨_, _, _, "SuperDriver$Row", kc_Row, by decide, Or.inl ⟨tb1_in (i := 40) rfl, rfl⟩, Or.inl rfl⟩
theorem f_Row_15 : FR "SuperDriver$Row" 15 1 0 := ⟨_, _, _, "SuperDriver$Row", kc_Row, by decide, Or.inl ⟨tb1_in (i := 39) rfl, rfl⟩, Or.inl rfl⟩
theorem w_Row_m_21 (y : String) : FW "SuperDriver$Row" y 21 1 1 := ⟨_, _, _, "SuperDriver$Row", kc_Row, by decide, Or.inl ⟨rfl, Or.inl ⟨tb1_in (i := 40) rfl, rfl⟩⟩, Or.inl rfl⟩
theorem w_Row_m_25 (y : String) : FW "SuperDriver$Row" y 25 1 2 := ⟨_, _, _, "SuperDriver$Row", kc_Row, by decide, Or.inl ⟨rfl, Or.inl ⟨tb1_in (i := 41) rfl, rfl⟩⟩, Or.inl rfl⟩
theorem f_Row_25 : FR "SuperDriver$Row" 25 1 2 := ⟨_, _, _, "SuperDriver$Row", kc_Row, by decide, Or.inl ⟨tb1_in (i := 41) rfl, rfl⟩, Or.inl rfl⟩
theorem w_Runner_init_14 (y : String) : FW "SuperDriver$Runner" y 14 10 2 := ⟨_, _, _, "SuperDriver$Runner", kc_Runner, by decide, Or.inl ⟨rfl, Or.inl ⟨tb2_in (i := 70) rfl, rfl⟩⟩, Or.inl rfl⟩
theorem w_Runner_init_20 (y : String) : FW "SuperDriver$Runner" y 20 10 3 := ⟨_, _, _, "SuperDriver$Runner", kc_Runner, by decide, Or.inl ⟨rfl, Or.inl ⟨tb2_in (i := 71) rfl, rfl⟩⟩, Or.inl rfl⟩
theorem w_Runner_init_23 (y : String) : FW "SuperDriver$Runner" y 23 10 4 := ⟨_, _, _, "SuperDriver$Runner", kc_Runner, by decide, Or.inl ⟨rfl, Or.inl ⟨tb2_in (i := 72) rfl, rfl⟩⟩, Or.inl rfl⟩
theorem w_Runner_init_27 (y : String) : FW "SuperDriver$Runner" y 27 10 5 := ⟨_, _, _, "SuperDriver$Runner", kc_Runner, by decide, Or.inl ⟨rfl, Or.inl ⟨tb2_in (i := 73) rfl, rfl⟩⟩, Or.inl rfl⟩
theorem w_Runner_init_30 : FW "SuperDriver$Runner" "<init>" 30 10 0 := ⟨_, _, _, "SuperDriver$Runner", kc_Runner, by decide, Or.inr ⟨rfl, rfl, rfl, tb2_in (i := 68) rfl, rfl⟩, Or.inl rfl⟩
theorem w_Runner_init_34 : FW "SuperDriver$Runner" "<init>" 34 10 1 := ⟨_, _, _, "SuperDriver$Runner", kc_Runner, by decide, Or.inr ⟨rfl, rfl, rfl, tb2_in (i := 69) rfl, rfl⟩, Or.inl rfl⟩
theorem f_Runner_34 : FR "SuperDriver$Runner" 34 10 1 := ⟨_, _, _, "SuperDriver$Runner", kc_Runner, by decide, Or.inl ⟨tb2_in (i := 69) rfl, rfl⟩, Or.inl rfl⟩
theorem f_Runner_14 : FR "SuperDriver$Runner" 14 10 2 := ⟨_, _, _, "SuperDriver$Runner", kc_Runner, by decide, Or.inl ⟨tb2_in (i := 70) rfl, rfl⟩, Or.inl rfl⟩
theorem w_Runner_m_23 (y : String) : FW "SuperDriver$Runner" y 23 10 4 := ⟨_, _, _, "SuperDriver$Runner", kc_Runner, by decide, Or.inl ⟨rfl, Or.inl ⟨tb2_in (i := 72) rfl, rfl⟩⟩, Or.inl rfl⟩
theorem w_Runner_m_27 (y : String) : FW "SuperDriver$Runner" y 27 10 5 := ⟨_, _, _, "SuperDriver$Runner", kc_Runner, by decide, Or.inl ⟨rfl, Or.inl ⟨tb2_in (i := 73) rfl, rfl⟩⟩, Or.inl rfl⟩
theorem f_Runner_23 : FR "SuperDriver$Runner" 23 10 4 := ⟨_, _, _, "SuperDriver$Runner", kc_Runner, by decide, Or.inl ⟨tb2_in (i := 72) rfl, rfl⟩, Or.inl rfl⟩
theorem f_Runner_27 : FR "SuperDriver$Runner" 27 10 5 := ⟨_, _, _, "SuperDriver$Runner", kc_Runner, by decide, Or.inl ⟨tb2_in (i := 73) rfl, rfl⟩, Or.inl rfl⟩
theorem f_Runner_30 : FR "SuperDriver$Runner" 30 10 0 := ⟨_, _, _, "SuperDriver$Runner", kc_Runner, by decide, Or.inl ⟨tb2_in (i := 68) rfl, rfl⟩, Or.inl rfl⟩
theorem f_Runner_20 : FR "SuperDriver$Runner" 20 10 3 := ⟨_, _, _, "SuperDriver$Runner", kc_Runner, by decide, Or.inl ⟨tb2_in (i := 71) rfl, rfl⟩, Or.inl rfl⟩
theorem w_Runner_m_14 (y : String) : FW "SuperDriver$Runner" y 14 10 2 := ⟨_, _, _, "SuperDriver$Runner", kc_Runner, by decide, Or.inl ⟨rfl, Or.inl ⟨tb2_in (i := 70) rfl, rfl⟩⟩, Or.inl rfl⟩
theorem w_Runner_m_20 (y : String) : FW "SuperDriver$Runner" y 20 10 3 := ⟨_, _, _, "SuperDriver$Runner", kc_Runner, by decide, Or.inl ⟨rfl, Or.inl ⟨tb2_in (i := 71) rfl, rfl⟩⟩, Or.inl rfl⟩
theorem w_Signs_init_9 : FW "SuperDriver$Signs" "<init>" 9 3 0 := ⟨_, _, _, "SuperDriver$Signs", kc_Signs, by decide, Or.inr ⟨rfl, rfl, rfl, tb1_in (i := 82) rfl, rfl⟩, Or.inl rfl⟩
theorem w_Signs_init_15 : FW "SuperDriver$Signs" "<init>" 15 3 1 := ⟨_, _, _, "SuperDriver$Signs", kc_Signs, by decide, Or.inr ⟨rfl, rfl, rfl, tb1_in (i := 83) rfl, rfl⟩, Or.inl rfl⟩
theorem w_Signs_init_19 : FW "SuperDriver$Signs" "<init>" 19 3 2 := ⟨_, _, _, "SuperDriver$Signs", kc_Signs, by decide, Or.inr ⟨rfl, rfl, rfl, tb1_in (i := 84) rfl, rfl⟩, Or.inl rfl⟩
theorem w_Signs_init_22 : FW "SuperDriver$Signs" "<init>" 22 3 3 := ⟨_, _, _, "SuperDriver$Signs", kc_Signs, by decide, Or.inr ⟨rfl, rfl, rfl, tb1_in (i := 85) rfl, rfl⟩, Or.inl rfl⟩
theorem w_Signs_init_25 : FW "SuperDriver$Signs" "<init>" 25 3 4 := ⟨_, _, _, "SuperDriver$Signs", kc_Signs, by decide, Or.inr ⟨rfl, rfl, rfl, tb1_in (i := 86) rfl, rfl⟩, Or.inl rfl⟩
theorem f_Signs_9 : FR "SuperDriver$Signs" 9 3 0 := ⟨_, _, _, "SuperDriver$Signs", kc_Signs, by decide, Or.inl ⟨tb1_in (i := 82) rfl, rfl⟩, Or.inl rfl⟩
theorem f_Signs_19 : FR "SuperDriver$Signs" 19 3 2 := ⟨_, _, _, "SuperDriver$Signs", kc_Signs, by decide, Or.inl ⟨tb1_in (i := 84) rfl, rfl⟩, Or.inl rfl⟩
theorem f_Signs_22 : FR "SuperDriver$Signs" 22 3 3 := ⟨_, _, _, "SuperDriver$Signs", kc_Signs, by decide, Or.inl ⟨tb1_in (i := 85) rfl, rfl⟩, Or.inl rfl⟩
theorem f_Signs_25 : FR "SuperDriver$Signs" 25 3 4 := ⟨_, _, _, "SuperDriver$Signs", kc_Signs, by decide, Or.inl ⟨tb1_in (i := 86) rfl, rfl⟩, Or.inl rfl⟩
theorem f_Signs_15 : FR "SuperDriver$Signs" 15 3 1 := ⟨_, _, _, "SuperDriver$Signs", kc_Signs, by decide, Or.inl ⟨tb1_in (i := 83) rfl, rfl⟩, Or.inl rfl⟩
theorem w_SourceProgram_init_11 : FW "SuperDriver$SourceProgram" "<init>" 11 4 0 := ⟨_, _, _, "SuperDriver$SourceProgram", kc_SourceProgram, by decide, Or.inr ⟨rfl, rfl, rfl, tb1_in (i := 111) rfl, rfl⟩, Or.inl rfl⟩
theorem f_SourceProgram_11 : FR "SuperDriver$SourceProgram" 11 4 0 := ⟨_, _, _, "SuperDriver$SourceProgram", kc_SourceProgram, by decide, Or.inl ⟨tb1_in (i := 111) rfl, rfl⟩, Or.inl rfl⟩
theorem f_SourceProgram_20 : FR "SuperDriver$SourceProgram" 20 4 1 := ⟨_, _, _, "SuperDriver$SourceProgram", kc_SourceProgram, by decide, Or.inl ⟨tb1_in (i := 113) rfl, rfl⟩, Or.inr ⟨tb1_in (i := 114) rfl, rfl⟩⟩
theorem w_Substitution_init_11 : FW "SuperDriver$Substitution" "<init>" 11 2 0 := ⟨_, _, _, "SuperDriver$Substitution", kc_Substitution, by decide, Or.inr ⟨rfl, rfl, rfl, tb1_in (i := 58) rfl, rfl⟩, Or.inl rfl⟩
theorem w_Substitution_init_17 : FW "SuperDriver$Substitution" "<init>" 17 2 1 := ⟨_, _, _, "SuperDriver$Substitution", kc_Substitution, by decide, Or.inr ⟨rfl, rfl, rfl, tb1_in (i := 59) rfl, rfl⟩, Or.inl rfl⟩
theorem w_Substitution_init_21 : FW "SuperDriver$Substitution" "<init>" 21 2 2 := ⟨_, _, _, "SuperDriver$Substitution", kc_Substitution, by decide, Or.inr ⟨rfl, rfl, rfl, tb1_in (i := 60) rfl, rfl⟩, Or.inl rfl⟩
theorem w_Substitution_init_24 : FW "SuperDriver$Substitution" "<init>" 24 2 3 := ⟨_, _, _, "SuperDriver$Substitution", kc_Substitution, by decide, Or.inr ⟨rfl, rfl, rfl, tb1_in (i := 61) rfl, rfl⟩, Or.inl rfl⟩
theorem w_Substitution_init_27 (y : String) : FW "SuperDriver$Substitution" y 27 2 4 := ⟨_, _, _, "SuperDriver$Substitution", kc_Substitution, by decide, Or.inl ⟨rfl, Or.inl ⟨tb1_in (i := 62) rfl, rfl⟩⟩, Or.inl rfl⟩
theorem f_Substitution_24 : FR "SuperDriver$Substitution" 24 2 3 := ⟨_, _, _, "SuperDriver$Substitution", kc_Substitution, by decide, Or.inl ⟨tb1_in (i := 61) rfl, rfl⟩, Or.inl rfl⟩
theorem f_Substitution_27 : FR "SuperDriver$Substitution" 27 2 4 := ⟨_, _, _, "SuperDriver$Substitution", kc_Substitution, by decide, Or.inl ⟨tb1_in (i := 62) rfl, rfl⟩, Or.inl rfl⟩
theorem f_Substitution_11 : FR "SuperDriver$Substitution" 11 2 0 := ⟨_, _, _, "SuperDriver$Substitution", kc_Substitution, by decide, Or.inl ⟨tb1_in (i := 58) rfl, rfl⟩, Or.inl rfl⟩
theorem f_Substitution_17 : FR "SuperDriver$Substitution" 17 2 1 := ⟨_, _, _, "SuperDriver$Substitution", kc_Substitution, by decide, Or.inl ⟨tb1_in (i := 59) rfl, rfl⟩, Or.inl rfl⟩
theorem f_Substitution_21 : FR "SuperDriver$Substitution" 21 2 2 := ⟨_, _, _, "SuperDriver$Substitution", kc_Substitution, by decide, Or.inl ⟨tb1_in (i := 60) rfl, rfl⟩, Or.inl rfl⟩
theorem w_Substitution_m_27 (y : String) : FW "SuperDriver$Substitution" y 27 2 4 := ⟨_, _, _, "SuperDriver$Substitution", kc_Substitution, by decide, Or.inl ⟨rfl, Or.inl ⟨tb1_in (i := 62) rfl, rfl⟩⟩, Or.inl rfl⟩
theorem w_Tree_init_11 : FW "SuperDriver$Tree" "<init>" 11 5 0 := ⟨_, _, _, "SuperDriver$Tree", kc_Tree, by decide, Or.inr ⟨rfl, rfl, rfl, tb1_in (i := 212) rfl, rfl⟩, Or.inl rfl⟩
theorem w_Tree_init_17 (y : String) : FW "SuperDriver$Tree" y 17 5 1 := ⟨_, _, _, "SuperDriver$Tree", kc_Tree, by decide, Or.inl ⟨rfl, Or.inl ⟨tb1_in (i := 213) rfl, rfl⟩⟩, Or.inl rfl⟩
theorem w_Tree_init_21 (y : String) : FW "SuperDriver$Tree" y 21 5 2 := ⟨_, _, _, "SuperDriver$Tree", kc_Tree, by decide, Or.inl ⟨rfl, Or.inl ⟨tb1_in (i := 214) rfl, rfl⟩⟩, Or.inl rfl⟩
theorem w_Tree_init_24 (y : String) : FW "SuperDriver$Tree" y 24 5 3 := ⟨_, _, _, "SuperDriver$Tree", kc_Tree, by decide, Or.inl ⟨rfl, Or.inl ⟨tb1_in (i := 215) rfl, rfl⟩⟩, Or.inl rfl⟩
theorem f_Tree_11 : FR "SuperDriver$Tree" 11 5 0 := ⟨_, _, _, "SuperDriver$Tree", kc_Tree, by decide, Or.inl ⟨tb1_in (i := 212) rfl, rfl⟩, Or.inl rfl⟩
theorem f_Tree_17 : FR "SuperDriver$Tree" 17 5 1 := ⟨_, _, _, "SuperDriver$Tree", kc_Tree, by decide, Or.inl ⟨tb1_in (i := 213) rfl, rfl⟩, Or.inl rfl⟩
theorem w_Tree_m_24 (y : String) : FW "SuperDriver$Tree" y 24 5 3 := ⟨_, _, _, "SuperDriver$Tree", kc_Tree, by decide, Or.inl ⟨rfl, Or.inl ⟨tb1_in (i := 215) rfl, rfl⟩⟩, Or.inl rfl⟩
theorem w_Tree_m_17 (y : String) : FW "SuperDriver$Tree" y 17 5 1 := ⟨_, _, _, "SuperDriver$Tree", kc_Tree, by decide, Or.inl ⟨rfl, Or.inl ⟨tb1_in (i := 213) rfl, rfl⟩⟩, Or.inl rfl⟩
theorem w_Tree_m_21 (y : String) : FW "SuperDriver$Tree" y 21 5 2 := ⟨_, _, _, "SuperDriver$Tree", kc_Tree, by decide, Or.inl ⟨rfl, Or.inl ⟨tb1_in (i := 214) rfl, rfl⟩⟩, Or.inl rfl⟩
theorem f_Tree_24 : FR "SuperDriver$Tree" 24 5 3 := ⟨_, _, _, "SuperDriver$Tree", kc_Tree, by decide, Or.inl ⟨tb1_in (i := 215) rfl, rfl⟩, Or.inl rfl⟩
theorem f_Tree_21 : FR "SuperDriver$Tree" 21 5 2 := ⟨_, _, _, "SuperDriver$Tree", kc_Tree, by decide, Or.inl ⟨tb1_in (i := 214) rfl, rfl⟩, Or.inl rfl⟩
theorem f_Tree_45 : FR "SuperDriver$Tree" 45 6 0 := ⟨_, _, _, "SuperDriver$Node", kc_Node, by decide, Or.inr ⟨"SuperDriver", tb1_in (i := 143) rfl⟩, Or.inl rfl⟩
theorem w_Mo_init_7 : FW "SuperDriverModel" "<init>" 7 11 2 := ⟨_, _, _, "SuperDriverModel", kc_Mo, by decide, Or.inr ⟨rfl, rfl, rfl, tb5_in (i := 31) rfl, rfl⟩, Or.inl rfl⟩
theorem w_Mo_init_13 : FW "SuperDriverModel" "<init>" 13 11 3 := ⟨_, _, _, "SuperDriverModel", kc_Mo, by decide, Or.inr ⟨rfl, rfl, rfl, tb5_in (i := 32) rfl, rfl⟩, Or.inl rfl⟩
theorem w_Mo_init_16 : FW "SuperDriverModel" "<init>" 16 11 4 := ⟨_, _, _, "SuperDriverModel", kc_Mo, by decide, Or.inr ⟨rfl, rfl, rfl, tb5_in (i := 33) rfl, rfl⟩, Or.inl rfl⟩
theorem w_Mo_init_20 : FW "SuperDriverModel" "<init>" 20 11 5 := ⟨_, _, _, "SuperDriverModel", kc_Mo, by decide, Or.inr ⟨rfl, rfl, rfl, tb5_in (i := 34) rfl, rfl⟩, Or.inl rfl⟩
theorem w_Mo_init_23 : FW "SuperDriverModel" "<init>" 23 11 6 := ⟨_, _, _, "SuperDriverModel", kc_Mo, by decide, Or.inr ⟨rfl, rfl, rfl, tb5_in (i := 35) rfl, rfl⟩, Or.inl rfl⟩
theorem w_Mo_init_26 : FW "SuperDriverModel" "<init>" 26 11 8 := ⟨_, _, _, "SuperDriverModel", kc_Mo, by decide, Or.inr ⟨rfl, rfl, rfl, tb5_in (i := 37) rfl, rfl⟩, Or.inl rfl⟩
theorem w_Mo_init_29 : FW "SuperDriverModel" "<init>" 29 11 9 := ⟨_, _, _, "SuperDriverModel", kc_Mo, by decide, Or.inr ⟨rfl, rfl, rfl, tb5_in (i := 38) rfl, rfl⟩, Or.inl rfl⟩
theorem w_Mo_init_32 : FW "SuperDriverModel" "<init>" 32 11 10 := ⟨_, _, _, "SuperDriverModel", kc_Mo, by decide, Or.inr ⟨rfl, rfl, rfl, tb5_in (i := 39) rfl, rfl⟩, Or.inl rfl⟩
theorem w_Mo_init_35 : FW "SuperDriverModel" "<init>" 35 11 15 := ⟨_, _, _, "SuperDriverModel", kc_Mo, by decide, Or.inr ⟨rfl, rfl, rfl, tb5_in (i := 44) rfl, rfl⟩, Or.inl rfl⟩
theorem w_Mo_init_38 : FW "SuperDriverModel" "<init>" 38 11 16 := ⟨_, _, _, "SuperDriverModel", kc_Mo, by decide, Or.inr ⟨rfl, rfl, rfl, tb5_in (i := 45) rfl, rfl⟩, Or.inl rfl⟩
theorem w_Mo_init_41 : FW "SuperDriverModel" "<init>" 41 11 17 := ⟨_, _, _, "SuperDriverModel", kc_Mo, by decide, Or.inr ⟨rfl, rfl, rfl, tb5_in (i := 46) rfl, rfl⟩, Or.inl rfl⟩
theorem w_Mo_init_44 : FW "SuperDriverModel" "<init>" 44 11 18 := ⟨_, _, _, "SuperDriverModel", kc_Mo, by decide, Or.inr ⟨rfl, rfl, rfl, tb5_in (i := 47) rfl, rfl⟩, Or.inl rfl⟩
theorem w_Mo_init_47 : FW "SuperDriverModel" "<init>" 47 11 19 := ⟨_, _, _, "SuperDriverModel", kc_Mo, by decide, Or.inr ⟨rfl, rfl, rfl, tb5_in (i := 48) rfl, rfl⟩, Or.inl rfl⟩
theorem w_Mo_init_50 : FW "SuperDriverModel" "<init>" 50 11 20 := ⟨_, _, _, "SuperDriverModel", kc_Mo, by decide, Or.inr ⟨rfl, rfl, rfl, tb5_in (i := 49) rfl, rfl⟩, Or.inl rfl⟩
theorem w_Mo_init_53 : FW "SuperDriverModel" "<init>" 53 11 21 := ⟨_, _, _, "SuperDriverModel", kc_Mo, by decide, Or.inr ⟨rfl, rfl, rfl, tb5_in (i := 50) rfl, rfl⟩, Or.inl rfl⟩
theorem w_Mo_init_56 : FW "SuperDriverModel" "<init>" 56 11 22 := ⟨_, _, _, "SuperDriverModel", kc_Mo, by decide, Or.inr ⟨rfl, rfl, rfl, tb5_in (i := 51) rfl, rfl⟩, Or.inl rfl⟩
theorem w_Mo_init_59 : FW "SuperDriverModel" "<init>" 59 11 23 := ⟨_, _, _, "SuperDriverModel", kc_Mo, by decide, Or.inr ⟨rfl, rfl, rfl, tb5_in (i := 52) rfl, rfl⟩, Or.inl rfl⟩
theorem w_Mo_init_62 : FW "SuperDriverModel" "<init>" 62 11 24 := ⟨_, _, _, "SuperDriverModel", kc_Mo, by decide, Or.inr ⟨rfl, rfl, rfl, tb5_in (i := 53) rfl, rfl⟩, Or.inl rfl⟩
theorem w_Mo_init_65 : FW "SuperDriverModel" "<init>" 65 11 25 := ⟨_, _, _, "SuperDriverModel", kc_Mo, by decide, Or.inr ⟨rfl, rfl, rfl, tb5_in (i := 54) rfl, rfl⟩, Or.inl rfl⟩
theorem w_Mo_init_68 : FW "SuperDriverModel" "<init>" 68 11 26 := ⟨_, _, _, "SuperDriverModel", kc_Mo, by decide, Or.inr ⟨rfl, rfl, rfl, tb5_in (i := 55) rfl, rfl⟩, Or.inl rfl⟩
theorem w_Mo_init_71 : FW "SuperDriverModel" "<init>" 71 11 27 := ⟨_, _, _, "SuperDriverModel", kc_Mo, by decide, Or.inr ⟨rfl, rfl, rfl, tb5_in (i := 56) rfl, rfl⟩, Or.inl rfl⟩
theorem w_Mo_init_74 : FW "SuperDriverModel" "<init>" 74 11 28 := ⟨_, _, _, "SuperDriverModel", kc_Mo, by decide, Or.inr ⟨rfl, rfl, rfl, tb5_in (i := 57) rfl, rfl⟩, Or.inl rfl⟩
theorem w_Mo_init_77 : FW "SuperDriverModel" "<init>" 77 11 29 := ⟨_, _, _, "SuperDriverModel", kc_Mo, by decide, Or.inr ⟨rfl, rfl, rfl, tb5_in (i := 58) rfl, rfl⟩, Or.inl rfl⟩
theorem w_Mo_init_80 : FW "SuperDriverModel" "<init>" 80 11 31 := ⟨_, _, _, "SuperDriverModel", kc_Mo, by decide, Or.inr ⟨rfl, rfl, rfl, tb5_in (i := 60) rfl, rfl⟩, Or.inl rfl⟩
theorem w_Mo_init_83 : FW "SuperDriverModel" "<init>" 83 11 32 := ⟨_, _, _, "SuperDriverModel", kc_Mo, by decide, Or.inr ⟨rfl, rfl, rfl, tb5_in (i := 61) rfl, rfl⟩, Or.inl rfl⟩
theorem w_Mo_init_86 : FW "SuperDriverModel" "<init>" 86 11 33 := ⟨_, _, _, "SuperDriverModel", kc_Mo, by decide, Or.inr ⟨rfl, rfl, rfl, tb5_in (i := 62) rfl, rfl⟩, Or.inl rfl⟩
theorem w_Mo_init_89 : FW "SuperDriverModel" "<init>" 89 11 34 := ⟨_, _, _, "SuperDriverModel", kc_Mo, by decide, Or.inr ⟨rfl, rfl, rfl, tb5_in (i := 63) rfl, rfl⟩, Or.inl rfl⟩
theorem w_Mo_init_92 : FW "SuperDriverModel" "<init>" 92 11 35 := ⟨_, _, _, "SuperDriverModel", kc_Mo, by decide, Or.inr ⟨rfl, rfl, rfl, tb5_in (i := 64) rfl, rfl⟩, Or.inl rfl⟩
theorem w_Mo_init_95 : FW "SuperDriverModel" "<init>" 95 11 36 := ⟨_, _, _, "SuperDriverModel", kc_Mo, by decide, Or.inr ⟨rfl, rfl, rfl, tb5_in (i := 65) rfl, rfl⟩, Or.inl rfl⟩
theorem w_Mo_init_98 : FW "SuperDriverModel" "<init>" 98 11 37 := ⟨_, _, _, "SuperDriverModel", kc_Mo, by decide, Or.inr ⟨rfl, rfl, rfl, tb5_in (i := 66) rfl, rfl⟩, Or.inl rfl⟩
theorem w_Mo_init_101 : FW "SuperDriverModel" "<init>" 101 11 39 := ⟨_, _, _, "SuperDriverModel", kc_Mo, by decide, Or.inr ⟨rfl, rfl, rfl, tb5_in (i := 68) rfl, rfl⟩, Or.inl rfl⟩
theorem w_Mo_init_104 : FW "SuperDriverModel" "<init>" 104 11 41 := ⟨_, _, _, "SuperDriverModel", kc_Mo, by decide, Or.inr ⟨rfl, rfl, rfl, tb5_in (i := 70) rfl, rfl⟩, Or.inl rfl⟩
theorem w_Mo_init_107 : FW "SuperDriverModel" "<init>" 107 11 42 := ⟨_, _, _, "SuperDriverModel", kc_Mo, by decide, Or.inr ⟨rfl, rfl, rfl, tb5_in (i := 71) rfl, rfl⟩, Or.inl rfl⟩
theorem w_Mo_init_110 (y : String) : FW "SuperDriverModel" y 110 11 43 := ⟨_, _, _, "SuperDriverModel", kc_Mo, by decide, Or.inl ⟨rfl, Or.inl ⟨tb5_in (i := 72) rfl, rfl⟩⟩, Or.inl rfl⟩
theorem w_Mo_init_114 : FW "SuperDriverModel" "<init>" 114 11 46 := ⟨_, _, _, "SuperDriverModel", kc_Mo, by decide, Or.inr ⟨rfl, rfl, rfl, tb5_in (i := 75) rfl, rfl⟩, Or.inl rfl⟩
theorem f_Mo_177 : FR "SuperDriverModel" 177 11 12 := ⟨_, _, _, "SuperDriverModel", kc_Mo, by decide, Or.inl ⟨tb5_in (i := 41) rfl, rfl⟩, Or.inl rfl⟩
theorem f_Mo_180 : FR "SuperDriverModel" 180 11 13 := ⟨_, _, _, "SuperDriverModel", kc_Mo, by decide, Or.inl ⟨tb5_in (i := 42) rfl, rfl⟩, Or.inl rfl⟩
theorem w_Mo_m_177 (y : String) : FW "SuperDriverModel" y 177 11 12 := ⟨_, _, _, "SuperDriverModel", kc_Mo, by decide, Or.inl ⟨rfl, Or.inl ⟨tb5_in (i := 41) rfl, rfl⟩⟩, Or.inl rfl⟩
theorem f_Mo_35 : FR "SuperDriverModel" 35 11 15 := ⟨_, _, _, "SuperDriverModel", kc_Mo, by decide, Or.inl ⟨tb5_in (i := 44) rfl, rfl⟩, Or.inl rfl⟩
theorem f_Mo_38 : FR "SuperDriverModel" 38 11 16 := ⟨_, _, _, "SuperDriverModel", kc_Mo, by decide, Or.inl ⟨tb5_in (i := 45) rfl, rfl⟩, Or.inl rfl⟩
theorem f_Mo_47 : FR "SuperDriverModel" 47 11 19 := ⟨_, _, _, "SuperDriverModel", kc_Mo, by decide, Or.inl ⟨tb5_in (i := 48) rfl, rfl⟩, Or.inl rfl⟩
theorem f_Mo_53 : FR "SuperDriverModel" 53 11 21 := ⟨_, _, _, "SuperDriverModel", kc_Mo, by decide, Or.inl ⟨tb5_in (i := 50) rfl, rfl⟩, Or.inl rfl⟩
theorem f_Mo_44 : FR "SuperDriverModel" 44 11 18 := ⟨_, _, _, "SuperDriverModel", kc_Mo, by decide, Or.inl ⟨tb5_in (i := 47) rfl, rfl⟩, Or.inl rfl⟩
theorem f_Mo_41 : FR "SuperDriverModel" 41 11 17 := ⟨_, _, _, "SuperDriverModel", kc_Mo, by decide, Or.inl ⟨tb5_in (i := 46) rfl, rfl⟩, Or.inl rfl⟩
theorem w_Mo_m_180 (y : String) : FW "SuperDriverModel" y 180 11 13 := ⟨_, _, _, "SuperDriverModel", kc_Mo, by decide, Or.inl ⟨rfl, Or.inl ⟨tb5_in (i := 42) rfl, rfl⟩⟩, Or.inl rfl⟩
theorem f_Mo_98 : FR "SuperDriverModel" 98 11 37 := ⟨_, _, _, "SuperDriverModel", kc_Mo, by decide, Or.inl ⟨tb5_in (i := 66) rfl, rfl⟩, Or.inl rfl⟩
theorem f_Mo_50 : FR "SuperDriverModel" 50 11 20 := ⟨_, _, _, "SuperDriverModel", kc_Mo, by decide, Or.inl ⟨tb5_in (i := 49) rfl, rfl⟩, Or.inl rfl⟩
theorem w_Mo_m_157 (y : String) : FW "SuperDriverModel" y 157 11 30 := ⟨_, _, _, "SuperDriverModel", kc_Mo, by decide, Or.inl ⟨rfl, Or.inl ⟨tb5_in (i := 59) rfl, rfl⟩⟩, Or.inl rfl⟩
theorem f_Mo_77 : FR "SuperDriverModel" 77 11 29 := ⟨_, _, _, "SuperDriverModel", kc_Mo, by decide, Or.inl ⟨tb5_in (i := 58) rfl, rfl⟩, Or.inl rfl⟩
theorem f_Mo_135 : FR "SuperDriverModel" 135 11 7 := ⟨_, _, _, "SuperDriverModel", kc_Mo, by decide, Or.inl ⟨tb5_in (i := 36) rfl, rfl⟩, Or.inl rfl⟩
theorem f_Mo_74 : FR "SuperDriverModel" 74 11 28 := ⟨_, _, _, "SuperDriverModel", kc_Mo, by decide, Or.inl ⟨tb5_in (i := 57) rfl, rfl⟩, Or.inl rfl⟩
theorem f_Mo_26 : FR "SuperDriverModel" 26 11 8 := ⟨_, _, _, "SuperDriverModel", kc_Mo, by decide, Or.inl ⟨tb5_in (i := 37) rfl, rfl⟩, Or.inl rfl⟩
theorem f_Mo_32 : FR "SuperDriverModel" 32 11 10 := ⟨_, _, _, "SuperDriverModel", kc_Mo, by decide, Or.inl ⟨tb5_in (i := 39) rfl, rfl⟩, Or.inl rfl⟩
theorem f_Mo_29 : FR "SuperDriverModel" 29 11 9 := ⟨_, _, _, "SuperDriverModel", kc_Mo, by decide, Or.inl ⟨tb5_in (i := 38) rfl, rfl⟩, Or.inl rfl⟩
theorem f_Mo_80 : FR "SuperDriverModel" 80 11 31 := ⟨_, _, _, "SuperDriverModel", kc_Mo, by decide, Or.inl ⟨tb5_in (i := 60) rfl, rfl⟩, Or.inl rfl⟩
theorem f_Mo_62 : FR "SuperDriverModel" 62 11 24 := ⟨_, _, _, "SuperDriverModel", kc_Mo, by decide, Or.inl ⟨tb5_in (i := 53) rfl, rfl⟩, Or.inl rfl⟩
theorem f_Mo_68 : FR "SuperDriverModel" 68 11 26 := ⟨_, _, _, "SuperDriverModel", kc_Mo, by decide, Or.inl ⟨tb5_in (i := 55) rfl, rfl⟩, Or.inl rfl⟩
theorem f_Mo_13 : FR "SuperDriverModel" 13 11 3 := ⟨_, _, _, "SuperDriverModel", kc_Mo, by decide, Or.inl ⟨tb5_in (i := 32) rfl, rfl⟩, Or.inl rfl⟩
theorem f_Mo_16 : FR "SuperDriverModel" 16 11 4 := ⟨_, _, _, "SuperDriverModel", kc_Mo, by decide, Or.inl ⟨tb5_in (i := 33) rfl, rfl⟩, Or.inl rfl⟩
theorem f_Mo_23 : FR "SuperDriverModel" 23 11 6 := ⟨_, _, _, "SuperDriverModel", kc_Mo, by decide, Or.inl ⟨tb5_in (i := 35) rfl, rfl⟩, Or.inl rfl⟩
theorem f_Mo_20 : FR "SuperDriverModel" 20 11 5 := ⟨_, _, _, "SuperDriverModel", kc_Mo, by decide, Or.inl ⟨tb5_in (i := 34) rfl, rfl⟩, Or.inl rfl⟩
theorem w_Mo_m_138 (y : String) : FW "SuperDriverModel" y 138 11 11 := ⟨_, _, _, "SuperDriverModel", kc_Mo, by decide, Or.inl ⟨rfl, Or.inl ⟨tb5_in (i := 40) rfl, rfl⟩⟩, Or.inl rfl⟩
theorem f_Mo_59 : FR "SuperDriverModel" 59 11 23 := ⟨_, _, _, "SuperDriverModel", kc_Mo, by decide, Or.inl ⟨tb5_in (i := 52) rfl, rfl⟩, Or.inl rfl⟩
theorem f_Mo_216 : FR "SuperDriverModel" 216 11 40 := ⟨_, _, _, "SuperDriverModel", kc_Mo, by decide, Or.inl ⟨tb5_in (i := 69) rfl, rfl⟩, Or.inl rfl⟩
theorem f_Mo_104 : FR "SuperDriverModel" 104 11 41 := ⟨_, _, _, "SuperDriverModel", kc_Mo, by decide, Or.inl ⟨tb5_in (i := 70) rfl, rfl⟩, Or.inl rfl⟩
theorem f_Mo_107 : FR "SuperDriverModel" 107 11 42 := ⟨_, _, _, "SuperDriverModel", kc_Mo, by decide, Or.inl ⟨tb5_in (i := 71) rfl, rfl⟩, Or.inl rfl⟩
theorem w_Mo_m_216 (y : String) : FW "SuperDriverModel" y 216 11 40 := ⟨_, _, _, "SuperDriverModel", kc_Mo, by decide, Or.inl ⟨rfl, Or.inl ⟨tb5_in (i := 69) rfl, rfl⟩⟩, Or.inl rfl⟩
theorem f_Mo_101 : FR "SuperDriverModel" 101 11 39 := ⟨_, _, _, "SuperDriverModel", kc_Mo, by decide, Or.inl ⟨tb5_in (i := 68) rfl, rfl⟩, Or.inl rfl⟩
theorem f_Mo_223 : FR "SuperDriverModel" 223 11 38 := ⟨_, _, _, "SuperDriverModel", kc_Mo, by decide, Or.inl ⟨tb5_in (i := 67) rfl, rfl⟩, Or.inl rfl⟩
theorem w_Mo_m_223 (y : String) : FW "SuperDriverModel" y 223 11 38 := ⟨_, _, _, "SuperDriverModel", kc_Mo, by decide, Or.inl ⟨rfl, Or.inl ⟨tb5_in (i := 67) rfl, rfl⟩⟩, Or.inl rfl⟩
theorem w_Mo_m_117 (y : String) : FW "SuperDriverModel" y 117 11 0 := ⟨_, _, _, "SuperDriverModel", kc_Mo, by decide, Or.inl ⟨rfl, Or.inl ⟨tb5_in (i := 29) rfl, rfl⟩⟩, Or.inl rfl⟩
theorem f_Mo_117 : FR "SuperDriverModel" 117 11 0 := ⟨_, _, _, "SuperDriverModel", kc_Mo, by decide, Or.inl ⟨tb5_in (i := 29) rfl, rfl⟩, Or.inl rfl⟩
theorem w_Mo_m_183 (y : String) : FW "SuperDriverModel" y 183 11 14 := ⟨_, _, _, "SuperDriverModel", kc_Mo, by decide, Or.inl ⟨rfl, Or.inl ⟨tb5_in (i := 43) rfl, rfl⟩⟩, Or.inl rfl⟩
theorem f_Mo_65 : FR "SuperDriverModel" 65 11 25 := ⟨_, _, _, "SuperDriverModel", kc_Mo, by decide, Or.inl ⟨tb5_in (i := 54) rfl, rfl⟩, Or.inl rfl⟩
theorem f_Mo_71 : FR "SuperDriverModel" 71 11 27 := ⟨_, _, _, "SuperDriverModel", kc_Mo, by decide, Or.inl ⟨tb5_in (i := 56) rfl, rfl⟩, Or.inl rfl⟩
theorem w_Mo_m_127 (y : String) : FW "SuperDriverModel" y 127 11 1 := ⟨_, _, _, "SuperDriverModel", kc_Mo, by decide, Or.inl ⟨rfl, Or.inl ⟨tb5_in (i := 30) rfl, rfl⟩⟩, Or.inl rfl⟩
theorem w_Mo_m_135 (y : String) : FW "SuperDriverModel" y 135 11 7 := ⟨_, _, _, "SuperDriverModel", kc_Mo, by decide, Or.inl ⟨rfl, Or.inl ⟨tb5_in (i := 36) rfl, rfl⟩⟩, Or.inl rfl⟩
theorem w_Mo_m_110 (y : String) : FW "SuperDriverModel" y 110 11 43 := ⟨_, _, _, "SuperDriverModel", kc_Mo, by decide, Or.inl ⟨rfl, Or.inl ⟨tb5_in (i := 72) rfl, rfl⟩⟩, Or.inl rfl⟩
theorem w_Mo_m_142 (y : String) : FW "SuperDriverModel" y 142 11 44 := ⟨_, _, _, "SuperDriverModel", kc_Mo, by decide, Or.inl ⟨rfl, Or.inl ⟨tb5_in (i := 73) rfl, rfl⟩⟩, Or.inl rfl⟩
theorem f_Mo_183 : FR "SuperDriverModel" 183 11 14 := ⟨_, _, _, "SuperDriverModel", kc_Mo, by decide, Or.inl ⟨tb5_in (i := 43) rfl, rfl⟩, Or.inl rfl⟩
theorem f_Mo_138 : FR "SuperDriverModel" 138 11 11 := ⟨_, _, _, "SuperDriverModel", kc_Mo, by decide, Or.inl ⟨tb5_in (i := 40) rfl, rfl⟩, Or.inl rfl⟩
theorem f_Mo_127 : FR "SuperDriverModel" 127 11 1 := ⟨_, _, _, "SuperDriverModel", kc_Mo, by decide, Or.inl ⟨tb5_in (i := 30) rfl, rfl⟩, Or.inl rfl⟩
theorem f_Mo_7 : FR "SuperDriverModel" 7 11 2 := ⟨_, _, _, "SuperDriverModel", kc_Mo, by decide, Or.inl ⟨tb5_in (i := 31) rfl, rfl⟩, Or.inl rfl⟩
theorem f_Mo_56 : FR "SuperDriverModel" 56 11 22 := ⟨_, _, _, "SuperDriverModel", kc_Mo, by decide, Or.inl ⟨tb5_in (i := 51) rfl, rfl⟩, Or.inl rfl⟩
theorem f_Mo_157 : FR "SuperDriverModel" 157 11 30 := ⟨_, _, _, "SuperDriverModel", kc_Mo, by decide, Or.inl ⟨tb5_in (i := 59) rfl, rfl⟩, Or.inl rfl⟩
theorem f_Mo_92 : FR "SuperDriverModel" 92 11 35 := ⟨_, _, _, "SuperDriverModel", kc_Mo, by decide, Or.inl ⟨tb5_in (i := 64) rfl, rfl⟩, Or.inl rfl⟩
theorem f_Mo_95 : FR "SuperDriverModel" 95 11 36 := ⟨_, _, _, "SuperDriverModel", kc_Mo, by decide, Or.inl ⟨tb5_in (i := 65) rfl, rfl⟩, Or.inl rfl⟩
theorem f_Mo_110 : FR "SuperDriverModel" 110 11 43 := ⟨_, _, _, "SuperDriverModel", kc_Mo, by decide, Or.inl ⟨tb5_in (i := 72) rfl, rfl⟩, Or.inl rfl⟩
theorem f_Mo_292 : FR "SuperDriverModel" 292 11 45 := ⟨_, _, _, "SuperDriverModel", kc_Mo, by decide, Or.inl ⟨tb5_in (i := 74) rfl, rfl⟩, Or.inl rfl⟩
theorem f_Mo_114 : FR "SuperDriverModel" 114 11 46 := ⟨_, _, _, "SuperDriverModel", kc_Mo, by decide, Or.inl ⟨tb5_in (i := 75) rfl, rfl⟩, Or.inl rfl⟩
theorem f_Mo_142 : FR "SuperDriverModel" 142 11 44 := ⟨_, _, _, "SuperDriverModel", kc_Mo, by decide, Or.inl ⟨tb5_in (i := 73) rfl, rfl⟩, Or.inl rfl⟩
theorem w_Mo_m_292 (y : String) : FW "SuperDriverModel" y 292 11 45 := ⟨_, _, _, "SuperDriverModel", kc_Mo, by decide, Or.inl ⟨rfl, Or.inl ⟨tb5_in (i := 74) rfl, rfl⟩⟩, Or.inl rfl⟩
theorem f_Mo_86 : FR "SuperDriverModel" 86 11 33 := ⟨_, _, _, "SuperDriverModel", kc_Mo, by decide, Or.inl ⟨tb5_in (i := 62) rfl, rfl⟩, Or.inl rfl⟩
theorem f_Mo_89 : FR "SuperDriverModel" 89 11 34 := ⟨_, _, _, "SuperDriverModel", kc_Mo, by decide, Or.inl ⟨tb5_in (i := 63) rfl, rfl⟩, Or.inl rfl⟩
theorem f_Mo_83 : FR "SuperDriverModel" 83 11 32 := ⟨_, _, _, "SuperDriverModel", kc_Mo, by decide, Or.inl ⟨tb5_in (i := 61) rfl, rfl⟩, Or.inl rfl⟩
end
