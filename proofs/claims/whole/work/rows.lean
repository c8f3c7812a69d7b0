section
-- ===== PART A: goes FIRST, ahead of the names: the tables' words, and 'selects' of the private methods out of them =====
/-- a private method of a class that the tables say can be made, by its rows of tables_1 -/
def lw_okq (q : MethodName × Nat) : Prop := (q.1.cls ≠ "java/lang/invoke/MethodHandle" ∧ q.1.cls ≠ "java/lang/invoke/VarHandle") ∧ Cond.instantiable q.1.cls q.2 ∈ tables_1 ∧ Cond.privateMethod q.1 ∈ tables_1 ∧ Cond.instanceMethod q.1 ∈ tables_1
theorem lw_p0 : lw_okq (⟨"java/lang/Throwable", "fillInStackTrace", "(I)Ljava/lang/Throwable;"⟩, 6) := ⟨⟨by decide +kernel, by decide +kernel⟩, List.mem_of_getElem? (i := 528) (by decide +kernel), List.mem_of_getElem? (i := 526) (by decide +kernel), List.mem_of_getElem? (i := 527) (by decide +kernel)⟩
theorem lw_p1 : lw_okq (⟨"SuperDriver$SourceProgram", "placeOf", "(II)LSuperDriver$Row;"⟩, 3) := ⟨⟨by decide +kernel, by decide +kernel⟩, List.mem_of_getElem? (i := 101) (by decide +kernel), List.mem_of_getElem? (i := 614) (by decide +kernel), List.mem_of_getElem? (i := 615) (by decide +kernel)⟩
theorem lw_p2 : lw_okq (⟨"SuperDriver$Driver", "settleWithoutCall", "(LSuperDriver$Node;)V"⟩, 8) := ⟨⟨by decide +kernel, by decide +kernel⟩, List.mem_of_getElem? (i := 226) (by decide +kernel), List.mem_of_getElem? (i := 688) (by decide +kernel), List.mem_of_getElem? (i := 689) (by decide +kernel)⟩
theorem lw_p3 : lw_okq (⟨"SuperDriver$Driver", "embeddedRival", "(LSuperDriver$Node;Z)LSuperDriver$Node;"⟩, 8) := ⟨⟨by decide +kernel, by decide +kernel⟩, List.mem_of_getElem? (i := 226) (by decide +kernel), List.mem_of_getElem? (i := 748) (by decide +kernel), List.mem_of_getElem? (i := 749) (by decide +kernel)⟩
theorem lw_p4 : lw_okq (⟨"SuperDriver$Signs", "findEnds", "(LSuperDriver$Row;[I)V"⟩, 5) := ⟨⟨by decide +kernel, by decide +kernel⟩, List.mem_of_getElem? (i := 75) (by decide +kernel), List.mem_of_getElem? (i := 757) (by decide +kernel), List.mem_of_getElem? (i := 758) (by decide +kernel)⟩
theorem lw_p5 : lw_okq (⟨"SuperDriver$Signs", "embeddedInParts", "(II)J"⟩, 5) := ⟨⟨by decide +kernel, by decide +kernel⟩, List.mem_of_getElem? (i := 75) (by decide +kernel), List.mem_of_getElem? (i := 762) (by decide +kernel), List.mem_of_getElem? (i := 763) (by decide +kernel)⟩
theorem lw_p6 : lw_okq (⟨"SuperDriver$Signs", "couples", "(IIII)Z"⟩, 5) := ⟨⟨by decide +kernel, by decide +kernel⟩, List.mem_of_getElem? (i := 75) (by decide +kernel), List.mem_of_getElem? (i := 766) (by decide +kernel), List.mem_of_getElem? (i := 767) (by decide +kernel)⟩
theorem lw_p7 : lw_okq (⟨"SuperDriver$Signs", "isMarked", "(II)Z"⟩, 5) := ⟨⟨by decide +kernel, by decide +kernel⟩, List.mem_of_getElem? (i := 75) (by decide +kernel), List.mem_of_getElem? (i := 771) (by decide +kernel), List.mem_of_getElem? (i := 772) (by decide +kernel)⟩
theorem lw_p8 : lw_okq (⟨"SuperDriver$Generaliser", "takeApart", "(LSuperDriver$Row;)V"⟩, 7) := ⟨⟨by decide +kernel, by decide +kernel⟩, List.mem_of_getElem? (i := 234) (by decide +kernel), List.mem_of_getElem? (i := 785) (by decide +kernel), List.mem_of_getElem? (i := 786) (by decide +kernel)⟩
theorem lw_p9 : lw_okq (⟨"SuperDriver$Generaliser", "newVariable", "(II)I"⟩, 7) := ⟨⟨by decide +kernel, by decide +kernel⟩, List.mem_of_getElem? (i := 234) (by decide +kernel), List.mem_of_getElem? (i := 791) (by decide +kernel), List.mem_of_getElem? (i := 792) (by decide +kernel)⟩
theorem lw_p10 : lw_okq (⟨"SuperDriver$Generaliser", "let", "(LSuperDriver$Node;[I)V"⟩, 7) := ⟨⟨by decide +kernel, by decide +kernel⟩, List.mem_of_getElem? (i := 234) (by decide +kernel), List.mem_of_getElem? (i := 800) (by decide +kernel), List.mem_of_getElem? (i := 801) (by decide +kernel)⟩
theorem lw_p11 : lw_okq (⟨"SuperDriver$Generaliser", "takeCommon", "(LSuperDriver$Row;LSuperDriver$Row;)V"⟩, 7) := ⟨⟨by decide +kernel, by decide +kernel⟩, List.mem_of_getElem? (i := 234) (by decide +kernel), List.mem_of_getElem? (i := 807) (by decide +kernel), List.mem_of_getElem? (i := 808) (by decide +kernel)⟩
theorem lw_p12 : lw_okq (⟨"SuperDriver$Generaliser", "metBefore", "(LSuperDriver$Row;IILSuperDriver$Row;II)I"⟩, 7) := ⟨⟨by decide +kernel, by decide +kernel⟩, List.mem_of_getElem? (i := 234) (by decide +kernel), List.mem_of_getElem? (i := 811) (by decide +kernel), List.mem_of_getElem? (i := 812) (by decide +kernel)⟩
theorem lw_p13 : lw_okq (⟨"SuperDriver$Driver", "step", "(LSuperDriver$Node;I)V"⟩, 8) := ⟨⟨by decide +kernel, by decide +kernel⟩, List.mem_of_getElem? (i := 226) (by decide +kernel), List.mem_of_getElem? (i := 831) (by decide +kernel), List.mem_of_getElem? (i := 832) (by decide +kernel)⟩
theorem lw_p14 : lw_okq (⟨"SuperDriver$Driver", "split", "(LSuperDriver$Node;I)V"⟩, 8) := ⟨⟨by decide +kernel, by decide +kernel⟩, List.mem_of_getElem? (i := 226) (by decide +kernel), List.mem_of_getElem? (i := 876) (by decide +kernel), List.mem_of_getElem? (i := 877) (by decide +kernel)⟩
theorem lw_p15 : lw_okq (⟨"SuperDriver$Driver", "addClause", "(LSuperDriver$Node;III)V"⟩, 8) := ⟨⟨by decide +kernel, by decide +kernel⟩, List.mem_of_getElem? (i := 226) (by decide +kernel), List.mem_of_getElem? (i := 881) (by decide +kernel), List.mem_of_getElem? (i := 882) (by decide +kernel)⟩
def lw_privs_1 : List (MethodName × Nat) := [(⟨"java/lang/Throwable", "fillInStackTrace", "(I)Ljava/lang/Throwable;"⟩, 6), (⟨"SuperDriver$SourceProgram", "placeOf", "(II)LSuperDriver$Row;"⟩, 3), (⟨"SuperDriver$Driver", "settleWithoutCall", "(LSuperDriver$Node;)V"⟩, 8), (⟨"SuperDriver$Driver", "embeddedRival", "(LSuperDriver$Node;Z)LSuperDriver$Node;"⟩, 8), (⟨"SuperDriver$Signs", "findEnds", "(LSuperDriver$Row;[I)V"⟩, 5), (⟨"SuperDriver$Signs", "embeddedInParts", "(II)J"⟩, 5), (⟨"SuperDriver$Signs", "couples", "(IIII)Z"⟩, 5), (⟨"SuperDriver$Signs", "isMarked", "(II)Z"⟩, 5), (⟨"SuperDriver$Generaliser", "takeApart", "(LSuperDriver$Row;)V"⟩, 7), (⟨"SuperDriver$Generaliser", "newVariable", "(II)I"⟩, 7), (⟨"SuperDriver$Generaliser", "let", "(LSuperDriver$Node;[I)V"⟩, 7), (⟨"SuperDriver$Generaliser", "takeCommon", "(LSuperDriver$Row;LSuperDriver$Row;)V"⟩, 7), (⟨"SuperDriver$Generaliser", "metBefore", "(LSuperDriver$Row;IILSuperDriver$Row;II)I"⟩, 7), (⟨"SuperDriver$Driver", "step", "(LSuperDriver$Node;I)V"⟩, 8), (⟨"SuperDriver$Driver", "split", "(LSuperDriver$Node;I)V"⟩, 8), (⟨"SuperDriver$Driver", "addClause", "(LSuperDriver$Node;III)V"⟩, 8)]
theorem lw_r1 : ∀ q ∈ lw_privs_1, lw_okq q := List.forall_mem_cons.mpr ⟨lw_p0, List.forall_mem_cons.mpr ⟨lw_p1, List.forall_mem_cons.mpr ⟨lw_p2, List.forall_mem_cons.mpr ⟨lw_p3, List.forall_mem_cons.mpr ⟨lw_p4, List.forall_mem_cons.mpr ⟨lw_p5, List.forall_mem_cons.mpr ⟨lw_p6, List.forall_mem_cons.mpr ⟨lw_p7, List.forall_mem_cons.mpr ⟨lw_p8, List.forall_mem_cons.mpr ⟨lw_p9, List.forall_mem_cons.mpr ⟨lw_p10, List.forall_mem_cons.mpr ⟨lw_p11, List.forall_mem_cons.mpr ⟨lw_p12, List.forall_mem_cons.mpr ⟨lw_p13, List.forall_mem_cons.mpr ⟨lw_p14, List.forall_mem_cons.mpr ⟨lw_p15, fun _ h => absurd h List.not_mem_nil⟩⟩⟩⟩⟩⟩⟩⟩⟩⟩⟩⟩⟩⟩⟩⟩
theorem lw_p16 : lw_okq (⟨"SuperDriver$ResidualProgram", "markFunctions", "()V"⟩, 3) := ⟨⟨by decide +kernel, by decide +kernel⟩, List.mem_of_getElem? (i := 289) (by decide +kernel), List.mem_of_getElem? (i := 897) (by decide +kernel), List.mem_of_getElem? (i := 898) (by decide +kernel)⟩
theorem lw_p17 : lw_okq (⟨"SuperDriver$ResidualProgram", "writeOwnCall", "(LSuperDriver$Node;)V"⟩, 3) := ⟨⟨by decide +kernel, by decide +kernel⟩, List.mem_of_getElem? (i := 289) (by decide +kernel), List.mem_of_getElem? (i := 902) (by decide +kernel), List.mem_of_getElem? (i := 903) (by decide +kernel)⟩
theorem lw_p18 : lw_okq (⟨"SuperDriver$ResidualProgram", "writeInline", "(LSuperDriver$Node;)V"⟩, 3) := ⟨⟨by decide +kernel, by decide +kernel⟩, List.mem_of_getElem? (i := 289) (by decide +kernel), List.mem_of_getElem? (i := 911) (by decide +kernel), List.mem_of_getElem? (i := 912) (by decide +kernel)⟩
theorem lw_p19 : lw_okq (⟨"SuperDriver$ResidualProgram", "writeLet", "(LSuperDriver$Node;)V"⟩, 3) := ⟨⟨by decide +kernel, by decide +kernel⟩, List.mem_of_getElem? (i := 289) (by decide +kernel), List.mem_of_getElem? (i := 923) (by decide +kernel), List.mem_of_getElem? (i := 924) (by decide +kernel)⟩
theorem lw_p20 : lw_okq (⟨"SuperDriver", "allInputsAreThere", "()Z"⟩, 9) := ⟨⟨by decide +kernel, by decide +kernel⟩, List.mem_of_getElem? (i := 23) (by decide +kernel), List.mem_of_getElem? (i := 959) (by decide +kernel), List.mem_of_getElem? (i := 960) (by decide +kernel)⟩
theorem lw_p21 : lw_okq (⟨"SuperDriver$Runner", "judge", "(LSuperDriver$Program;II)I"⟩, 6) := ⟨⟨by decide +kernel, by decide +kernel⟩, List.mem_of_getElem? (i := 301) (by decide +kernel), List.mem_of_getElem? (i := 977) (by decide +kernel), List.mem_of_getElem? (i := 978) (by decide +kernel)⟩
theorem lw_p22 : lw_okq (⟨"SuperDriverModel", "throwing", "(ZZ)Z"⟩, 47) := ⟨⟨by decide +kernel, by decide +kernel⟩, List.mem_of_getElem? (i := 984) (by decide +kernel), List.mem_of_getElem? (i := 1156) (by decide +kernel), List.mem_of_getElem? (i := 1157) (by decide +kernel)⟩
theorem lw_p23 : lw_okq (⟨"SuperDriverModel", "isTerm", "(IZ)Z"⟩, 47) := ⟨⟨by decide +kernel, by decide +kernel⟩, List.mem_of_getElem? (i := 984) (by decide +kernel), List.mem_of_getElem? (i := 1167) (by decide +kernel), List.mem_of_getElem? (i := 1168) (by decide +kernel)⟩
theorem lw_p24 : lw_okq (⟨"SuperDriverModel", "partsOf", "(I)I"⟩, 47) := ⟨⟨by decide +kernel, by decide +kernel⟩, List.mem_of_getElem? (i := 984) (by decide +kernel), List.mem_of_getElem? (i := 1171) (by decide +kernel), List.mem_of_getElem? (i := 1172) (by decide +kernel)⟩
theorem lw_p25 : lw_okq (⟨"SuperDriverModel", "takeText", "([II)I"⟩, 47) := ⟨⟨by decide +kernel, by decide +kernel⟩, List.mem_of_getElem? (i := 984) (by decide +kernel), List.mem_of_getElem? (i := 1175) (by decide +kernel), List.mem_of_getElem? (i := 1176) (by decide +kernel)⟩
theorem lw_p26 : lw_okq (⟨"SuperDriverModel", "add", "(I[III)V"⟩, 47) := ⟨⟨by decide +kernel, by decide +kernel⟩, List.mem_of_getElem? (i := 984) (by decide +kernel), List.mem_of_getElem? (i := 1191) (by decide +kernel), List.mem_of_getElem? (i := 1192) (by decide +kernel)⟩
theorem lw_p27 : lw_okq (⟨"SuperDriverModel", "turn", "(I)V"⟩, 47) := ⟨⟨by decide +kernel, by decide +kernel⟩, List.mem_of_getElem? (i := 984) (by decide +kernel), List.mem_of_getElem? (i := 1195) (by decide +kernel), List.mem_of_getElem? (i := 1196) (by decide +kernel)⟩
theorem lw_p28 : lw_okq (⟨"SuperDriverModel", "becomes", "(II)V"⟩, 47) := ⟨⟨by decide +kernel, by decide +kernel⟩, List.mem_of_getElem? (i := 984) (by decide +kernel), List.mem_of_getElem? (i := 1199) (by decide +kernel), List.mem_of_getElem? (i := 1200) (by decide +kernel)⟩
theorem lw_p29 : lw_okq (⟨"SuperDriverModel", "build", "(I)V"⟩, 47) := ⟨⟨by decide +kernel, by decide +kernel⟩, List.mem_of_getElem? (i := 984) (by decide +kernel), List.mem_of_getElem? (i := 1203) (by decide +kernel), List.mem_of_getElem? (i := 1204) (by decide +kernel)⟩
theorem lw_p30 : lw_okq (⟨"SuperDriverModel", "end", "([II)I"⟩, 47) := ⟨⟨by decide +kernel, by decide +kernel⟩, List.mem_of_getElem? (i := 984) (by decide +kernel), List.mem_of_getElem? (i := 1207) (by decide +kernel), List.mem_of_getElem? (i := 1208) (by decide +kernel)⟩
theorem lw_p31 : lw_okq (⟨"SuperDriverModel", "load", "(I)V"⟩, 47) := ⟨⟨by decide +kernel, by decide +kernel⟩, List.mem_of_getElem? (i := 984) (by decide +kernel), List.mem_of_getElem? (i := 1211) (by decide +kernel), List.mem_of_getElem? (i := 1212) (by decide +kernel)⟩
def lw_privs_2 : List (MethodName × Nat) := [(⟨"SuperDriver$ResidualProgram", "markFunctions", "()V"⟩, 3), (⟨"SuperDriver$ResidualProgram", "writeOwnCall", "(LSuperDriver$Node;)V"⟩, 3), (⟨"SuperDriver$ResidualProgram", "writeInline", "(LSuperDriver$Node;)V"⟩, 3), (⟨"SuperDriver$ResidualProgram", "writeLet", "(LSuperDriver$Node;)V"⟩, 3), (⟨"SuperDriver", "allInputsAreThere", "()Z"⟩, 9), (⟨"SuperDriver$Runner", "judge", "(LSuperDriver$Program;II)I"⟩, 6), (⟨"SuperDriverModel", "throwing", "(ZZ)Z"⟩, 47), (⟨"SuperDriverModel", "isTerm", "(IZ)Z"⟩, 47), (⟨"SuperDriverModel", "partsOf", "(I)I"⟩, 47), (⟨"SuperDriverModel", "takeText", "([II)I"⟩, 47), (⟨"SuperDriverModel", "add", "(I[III)V"⟩, 47), (⟨"SuperDriverModel", "turn", "(I)V"⟩, 47), (⟨"SuperDriverModel", "becomes", "(II)V"⟩, 47), (⟨"SuperDriverModel", "build", "(I)V"⟩, 47), (⟨"SuperDriverModel", "end", "([II)I"⟩, 47), (⟨"SuperDriverModel", "load", "(I)V"⟩, 47)]
theorem lw_r2 : ∀ q ∈ lw_privs_2, lw_okq q := List.forall_mem_cons.mpr ⟨lw_p16, List.forall_mem_cons.mpr ⟨lw_p17, List.forall_mem_cons.mpr ⟨lw_p18, List.forall_mem_cons.mpr ⟨lw_p19, List.forall_mem_cons.mpr ⟨lw_p20, List.forall_mem_cons.mpr ⟨lw_p21, List.forall_mem_cons.mpr ⟨lw_p22, List.forall_mem_cons.mpr ⟨lw_p23, List.forall_mem_cons.mpr ⟨lw_p24, List.forall_mem_cons.mpr ⟨lw_p25, List.forall_mem_cons.mpr ⟨lw_p26, List.forall_mem_cons.mpr ⟨lw_p27, List.forall_mem_cons.mpr ⟨lw_p28, List.forall_mem_cons.mpr ⟨lw_p29, List.forall_mem_cons.mpr ⟨lw_p30, List.forall_mem_cons.mpr ⟨lw_p31, fun _ h => absurd h List.not_mem_nil⟩⟩⟩⟩⟩⟩⟩⟩⟩⟩⟩⟩⟩⟩⟩⟩
theorem lw_p32 : lw_okq (⟨"SuperDriverModel", "nextCall", "()I"⟩, 47) := ⟨⟨by decide +kernel, by decide +kernel⟩, List.mem_of_getElem? (i := 984) (by decide +kernel), List.mem_of_getElem? (i := 1215) (by decide +kernel), List.mem_of_getElem? (i := 1216) (by decide +kernel)⟩
theorem lw_p33 : lw_okq (⟨"SuperDriverModel", "isCased", "(I)Z"⟩, 47) := ⟨⟨by decide +kernel, by decide +kernel⟩, List.mem_of_getElem? (i := 984) (by decide +kernel), List.mem_of_getElem? (i := 1219) (by decide +kernel), List.mem_of_getElem? (i := 1220) (by decide +kernel)⟩
theorem lw_p34 : lw_okq (⟨"SuperDriverModel", "bodyOf", "(I)I"⟩, 47) := ⟨⟨by decide +kernel, by decide +kernel⟩, List.mem_of_getElem? (i := 984) (by decide +kernel), List.mem_of_getElem? (i := 1223) (by decide +kernel), List.mem_of_getElem? (i := 1224) (by decide +kernel)⟩
theorem lw_p35 : lw_okq (⟨"SuperDriverModel", "rival", "(IZZ)I"⟩, 47) := ⟨⟨by decide +kernel, by decide +kernel⟩, List.mem_of_getElem? (i := 984) (by decide +kernel), List.mem_of_getElem? (i := 1227) (by decide +kernel), List.mem_of_getElem? (i := 1228) (by decide +kernel)⟩
theorem lw_p36 : lw_okq (⟨"SuperDriverModel", "isEmbedded", "(II)Z"⟩, 47) := ⟨⟨by decide +kernel, by decide +kernel⟩, List.mem_of_getElem? (i := 984) (by decide +kernel), List.mem_of_getElem? (i := 1231) (by decide +kernel), List.mem_of_getElem? (i := 1232) (by decide +kernel)⟩
theorem lw_p37 : lw_okq (⟨"SuperDriverModel", "areParts", "(IIIII)Z"⟩, 47) := ⟨⟨by decide +kernel, by decide +kernel⟩, List.mem_of_getElem? (i := 984) (by decide +kernel), List.mem_of_getElem? (i := 1235) (by decide +kernel), List.mem_of_getElem? (i := 1236) (by decide +kernel)⟩
theorem lw_p38 : lw_okq (⟨"SuperDriverModel", "isRenaming", "(II)Z"⟩, 47) := ⟨⟨by decide +kernel, by decide +kernel⟩, List.mem_of_getElem? (i := 984) (by decide +kernel), List.mem_of_getElem? (i := 1239) (by decide +kernel), List.mem_of_getElem? (i := 1240) (by decide +kernel)⟩
theorem lw_p39 : lw_okq (⟨"SuperDriverModel", "renames", "([III[III)Z"⟩, 47) := ⟨⟨by decide +kernel, by decide +kernel⟩, List.mem_of_getElem? (i := 984) (by decide +kernel), List.mem_of_getElem? (i := 1243) (by decide +kernel), List.mem_of_getElem? (i := 1244) (by decide +kernel)⟩
theorem lw_p40 : lw_okq (⟨"SuperDriverModel", "generalise", "(II)V"⟩, 47) := ⟨⟨by decide +kernel, by decide +kernel⟩, List.mem_of_getElem? (i := 984) (by decide +kernel), List.mem_of_getElem? (i := 1247) (by decide +kernel), List.mem_of_getElem? (i := 1248) (by decide +kernel)⟩
theorem lw_p41 : lw_okq (⟨"SuperDriverModel", "renew", "(I)I"⟩, 47) := ⟨⟨by decide +kernel, by decide +kernel⟩, List.mem_of_getElem? (i := 984) (by decide +kernel), List.mem_of_getElem? (i := 1251) (by decide +kernel), List.mem_of_getElem? (i := 1252) (by decide +kernel)⟩
theorem lw_p42 : lw_okq (⟨"SuperDriverModel", "differ", "(III)V"⟩, 47) := ⟨⟨by decide +kernel, by decide +kernel⟩, List.mem_of_getElem? (i := 984) (by decide +kernel), List.mem_of_getElem? (i := 1255) (by decide +kernel), List.mem_of_getElem? (i := 1256) (by decide +kernel)⟩
theorem lw_p43 : lw_okq (⟨"SuperDriverModel", "alike", "([II[III)Z"⟩, 47) := ⟨⟨by decide +kernel, by decide +kernel⟩, List.mem_of_getElem? (i := 984) (by decide +kernel), List.mem_of_getElem? (i := 1259) (by decide +kernel), List.mem_of_getElem? (i := 1260) (by decide +kernel)⟩
theorem lw_p44 : lw_okq (⟨"SuperDriverModel", "goBelow", "(I)V"⟩, 47) := ⟨⟨by decide +kernel, by decide +kernel⟩, List.mem_of_getElem? (i := 984) (by decide +kernel), List.mem_of_getElem? (i := 1263) (by decide +kernel), List.mem_of_getElem? (i := 1264) (by decide +kernel)⟩
theorem lw_p45 : lw_okq (⟨"SuperDriverModel", "let", "(II[I)V"⟩, 47) := ⟨⟨by decide +kernel, by decide +kernel⟩, List.mem_of_getElem? (i := 984) (by decide +kernel), List.mem_of_getElem? (i := 1267) (by decide +kernel), List.mem_of_getElem? (i := 1268) (by decide +kernel)⟩
theorem lw_p46 : lw_okq (⟨"SuperDriverModel", "unfold", "(I)V"⟩, 47) := ⟨⟨by decide +kernel, by decide +kernel⟩, List.mem_of_getElem? (i := 984) (by decide +kernel), List.mem_of_getElem? (i := 1271) (by decide +kernel), List.mem_of_getElem? (i := 1272) (by decide +kernel)⟩
theorem lw_p47 : lw_okq (⟨"SuperDriverModel", "bind", "(II)I"⟩, 47) := ⟨⟨by decide +kernel, by decide +kernel⟩, List.mem_of_getElem? (i := 984) (by decide +kernel), List.mem_of_getElem? (i := 1275) (by decide +kernel), List.mem_of_getElem? (i := 1276) (by decide +kernel)⟩
def lw_privs_3 : List (MethodName × Nat) := [(⟨"SuperDriverModel", "nextCall", "()I"⟩, 47), (⟨"SuperDriverModel", "isCased", "(I)Z"⟩, 47), (⟨"SuperDriverModel", "bodyOf", "(I)I"⟩, 47), (⟨"SuperDriverModel", "rival", "(IZZ)I"⟩, 47), (⟨"SuperDriverModel", "isEmbedded", "(II)Z"⟩, 47), (⟨"SuperDriverModel", "areParts", "(IIIII)Z"⟩, 47), (⟨"SuperDriverModel", "isRenaming", "(II)Z"⟩, 47), (⟨"SuperDriverModel", "renames", "([III[III)Z"⟩, 47), (⟨"SuperDriverModel", "generalise", "(II)V"⟩, 47), (⟨"SuperDriverModel", "renew", "(I)I"⟩, 47), (⟨"SuperDriverModel", "differ", "(III)V"⟩, 47), (⟨"SuperDriverModel", "alike", "([II[III)Z"⟩, 47), (⟨"SuperDriverModel", "goBelow", "(I)V"⟩, 47), (⟨"SuperDriverModel", "let", "(II[I)V"⟩, 47), (⟨"SuperDriverModel", "unfold", "(I)V"⟩, 47), (⟨"SuperDriverModel", "bind", "(II)I"⟩, 47)]
theorem lw_r3 : ∀ q ∈ lw_privs_3, lw_okq q := List.forall_mem_cons.mpr ⟨lw_p32, List.forall_mem_cons.mpr ⟨lw_p33, List.forall_mem_cons.mpr ⟨lw_p34, List.forall_mem_cons.mpr ⟨lw_p35, List.forall_mem_cons.mpr ⟨lw_p36, List.forall_mem_cons.mpr ⟨lw_p37, List.forall_mem_cons.mpr ⟨lw_p38, List.forall_mem_cons.mpr ⟨lw_p39, List.forall_mem_cons.mpr ⟨lw_p40, List.forall_mem_cons.mpr ⟨lw_p41, List.forall_mem_cons.mpr ⟨lw_p42, List.forall_mem_cons.mpr ⟨lw_p43, List.forall_mem_cons.mpr ⟨lw_p44, List.forall_mem_cons.mpr ⟨lw_p45, List.forall_mem_cons.mpr ⟨lw_p46, List.forall_mem_cons.mpr ⟨lw_p47, fun _ h => absurd h List.not_mem_nil⟩⟩⟩⟩⟩⟩⟩⟩⟩⟩⟩⟩⟩⟩⟩⟩
theorem lw_p48 : lw_okq (⟨"SuperDriverModel", "stand", "(II)I"⟩, 47) := ⟨⟨by decide +kernel, by decide +kernel⟩, List.mem_of_getElem? (i := 984) (by decide +kernel), List.mem_of_getElem? (i := 1279) (by decide +kernel), List.mem_of_getElem? (i := 1280) (by decide +kernel)⟩
theorem lw_p49 : lw_okq (⟨"SuperDriverModel", "split", "(II)V"⟩, 47) := ⟨⟨by decide +kernel, by decide +kernel⟩, List.mem_of_getElem? (i := 984) (by decide +kernel), List.mem_of_getElem? (i := 1283) (by decide +kernel), List.mem_of_getElem? (i := 1284) (by decide +kernel)⟩
theorem lw_p50 : lw_okq (⟨"SuperDriverModel", "lowestOpen", "()I"⟩, 47) := ⟨⟨by decide +kernel, by decide +kernel⟩, List.mem_of_getElem? (i := 984) (by decide +kernel), List.mem_of_getElem? (i := 1287) (by decide +kernel), List.mem_of_getElem? (i := 1288) (by decide +kernel)⟩
theorem lw_p51 : lw_okq (⟨"SuperDriverModel", "findFunctions", "()V"⟩, 47) := ⟨⟨by decide +kernel, by decide +kernel⟩, List.mem_of_getElem? (i := 984) (by decide +kernel), List.mem_of_getElem? (i := 1291) (by decide +kernel), List.mem_of_getElem? (i := 1292) (by decide +kernel)⟩
theorem lw_p52 : lw_okq (⟨"SuperDriverModel", "hold", "(II)V"⟩, 47) := ⟨⟨by decide +kernel, by decide +kernel⟩, List.mem_of_getElem? (i := 984) (by decide +kernel), List.mem_of_getElem? (i := 1295) (by decide +kernel), List.mem_of_getElem? (i := 1296) (by decide +kernel)⟩
theorem lw_p53 : lw_okq (⟨"SuperDriverModel", "write", "(I)V"⟩, 47) := ⟨⟨by decide +kernel, by decide +kernel⟩, List.mem_of_getElem? (i := 984) (by decide +kernel), List.mem_of_getElem? (i := 1299) (by decide +kernel), List.mem_of_getElem? (i := 1300) (by decide +kernel)⟩
theorem lw_p54 : lw_okq (⟨"SuperDriverModel", "putCall", "(I)V"⟩, 47) := ⟨⟨by decide +kernel, by decide +kernel⟩, List.mem_of_getElem? (i := 984) (by decide +kernel), List.mem_of_getElem? (i := 1303) (by decide +kernel), List.mem_of_getElem? (i := 1304) (by decide +kernel)⟩
theorem lw_p55 : lw_okq (⟨"SuperDriverModel", "put", "(I)V"⟩, 47) := ⟨⟨by decide +kernel, by decide +kernel⟩, List.mem_of_getElem? (i := 984) (by decide +kernel), List.mem_of_getElem? (i := 1307) (by decide +kernel), List.mem_of_getElem? (i := 1308) (by decide +kernel)⟩
theorem lw_p56 : lw_okq (⟨"SuperDriverModel", "putResidual", "(I)V"⟩, 47) := ⟨⟨by decide +kernel, by decide +kernel⟩, List.mem_of_getElem? (i := 984) (by decide +kernel), List.mem_of_getElem? (i := 1311) (by decide +kernel), List.mem_of_getElem? (i := 1312) (by decide +kernel)⟩
theorem lw_p57 : lw_okq (⟨"SuperDriverModel", "isNode", "(I)Z"⟩, 47) := ⟨⟨by decide +kernel, by decide +kernel⟩, List.mem_of_getElem? (i := 984) (by decide +kernel), List.mem_of_getElem? (i := 1319) (by decide +kernel), List.mem_of_getElem? (i := 1320) (by decide +kernel)⟩
theorem lw_p58 : lw_okq (⟨"SuperDriverModel", "hasInputs", "()Z"⟩, 47) := ⟨⟨by decide +kernel, by decide +kernel⟩, List.mem_of_getElem? (i := 984) (by decide +kernel), List.mem_of_getElem? (i := 1335) (by decide +kernel), List.mem_of_getElem? (i := 1336) (by decide +kernel)⟩
theorem lw_p59 : lw_okq (⟨"SuperDriverModel", "begin", "(Z)V"⟩, 47) := ⟨⟨by decide +kernel, by decide +kernel⟩, List.mem_of_getElem? (i := 984) (by decide +kernel), List.mem_of_getElem? (i := 1339) (by decide +kernel), List.mem_of_getElem? (i := 1340) (by decide +kernel)⟩
def lw_privs_4 : List (MethodName × Nat) := [(⟨"SuperDriverModel", "stand", "(II)I"⟩, 47), (⟨"SuperDriverModel", "split", "(II)V"⟩, 47), (⟨"SuperDriverModel", "lowestOpen", "()I"⟩, 47), (⟨"SuperDriverModel", "findFunctions", "()V"⟩, 47), (⟨"SuperDriverModel", "hold", "(II)V"⟩, 47), (⟨"SuperDriverModel", "write", "(I)V"⟩, 47), (⟨"SuperDriverModel", "putCall", "(I)V"⟩, 47), (⟨"SuperDriverModel", "put", "(I)V"⟩, 47), (⟨"SuperDriverModel", "putResidual", "(I)V"⟩, 47), (⟨"SuperDriverModel", "isNode", "(I)Z"⟩, 47), (⟨"SuperDriverModel", "hasInputs", "()Z"⟩, 47), (⟨"SuperDriverModel", "begin", "(Z)V"⟩, 47)]
theorem lw_r4 : ∀ q ∈ lw_privs_4, lw_okq q := List.forall_mem_cons.mpr ⟨lw_p48, List.forall_mem_cons.mpr ⟨lw_p49, List.forall_mem_cons.mpr ⟨lw_p50, List.forall_mem_cons.mpr ⟨lw_p51, List.forall_mem_cons.mpr ⟨lw_p52, List.forall_mem_cons.mpr ⟨lw_p53, List.forall_mem_cons.mpr ⟨lw_p54, List.forall_mem_cons.mpr ⟨lw_p55, List.forall_mem_cons.mpr ⟨lw_p56, List.forall_mem_cons.mpr ⟨lw_p57, List.forall_mem_cons.mpr ⟨lw_p58, List.forall_mem_cons.mpr ⟨lw_p59, fun _ h => absurd h List.not_mem_nil⟩⟩⟩⟩⟩⟩⟩⟩⟩⟩⟩⟩
def lw_privs : List (MethodName × Nat) := lw_privs_1 ++ (lw_privs_2 ++ (lw_privs_3 ++ (lw_privs_4)))
def lw_tbl : List Cond := k2_sels lw_privs ++ tables_1
theorem lw_privs_ok : ∀ q ∈ lw_privs, lw_okq q := by
  show ∀ q ∈ lw_privs_1 ++ (lw_privs_2 ++ (lw_privs_3 ++ (lw_privs_4))), lw_okq q
  exact List.forall_mem_append.mpr ⟨lw_r1, List.forall_mem_append.mpr ⟨lw_r2, List.forall_mem_append.mpr ⟨lw_r3, lw_r4⟩⟩⟩
end
section
abbrev Mth : Type := MethodName × ByteArray × Nat × Option FieldType × Option (List (Nat × Nat × Nat × Nat))
def R_SD : String := "SuperDriver"
def T_SD : u_T := fun k => match k with
  | 0 => ("SuperDriver", "text", "LSuperDriver$Row;", true)
  | 1 => ("SuperDriver", "goal", "LSuperDriver$Row;", true)
  | 2 => ("SuperDriver", "inputs", "[LSuperDriver$Row;", true)
  | 3 => ("SuperDriver", "signs", "LSuperDriver$Signs;", true)
  | 4 => ("SuperDriver", "source", "LSuperDriver$SourceProgram;", true)
  | 5 => ("SuperDriver", "tree", "LSuperDriver$Tree;", true)
  | 6 => ("SuperDriver", "driver", "LSuperDriver$Driver;", true)
  | 7 => ("SuperDriver", "residue", "LSuperDriver$ResidualProgram;", true)
  | _ => ("SuperDriver", "runner", "LSuperDriver$Runner;", true)
def ty_SD : Nat → FieldType := fun k => match k with
  | 0 => (.object "SuperDriver$Row")
  | 1 => (.object "SuperDriver$Row")
  | 2 => (.array (.object "SuperDriver$Row"))
  | 3 => (.object "SuperDriver$Signs")
  | 4 => (.object "SuperDriver$SourceProgram")
  | 5 => (.object "SuperDriver$Tree")
  | 6 => (.object "SuperDriver$Driver")
  | 7 => (.object "SuperDriver$ResidualProgram")
  | _ => (.object "SuperDriver$Runner")
def R_Row : String := "SuperDriver$Row"
def T_Row : u_T := fun k => match k with
  | 0 => ("SuperDriver$Row", "held", "[I", true)
  | 1 => ("SuperDriver$Row", "length", "I", false)
  | _ => ("SuperDriver$Row", "tooLong", "Z", false)
def ty_Row : Nat → FieldType := fun k => match k with
  | 0 => (.array .int)
  | 1 => .int
  | _ => .boolean
def R_Substitution : String := "SuperDriver$Substitution"
def T_Substitution : u_T := fun k => match k with
  | 0 => ("SuperDriver$Substitution", "rows", "[LSuperDriver$Row;", true)
  | 1 => ("SuperDriver$Substitution", "starts", "[I", true)
  | 2 => ("SuperDriver$Substitution", "ends", "[I", true)
  | 3 => ("SuperDriver$Substitution", "stamps", "[I", true)
  | _ => ("SuperDriver$Substitution", "stamp", "I", false)
def ty_Substitution : Nat → FieldType := fun k => match k with
  | 0 => (.array (.object "SuperDriver$Row"))
  | 1 => (.array .int)
  | 2 => (.array .int)
  | 3 => (.array .int)
  | _ => .int
def R_Signs : String := "SuperDriver$Signs"
def T_Signs : u_T := fun k => match k with
  | 0 => ("SuperDriver$Signs", "parts", "[I", true)
  | 1 => ("SuperDriver$Signs", "cased", "[Z", true)
  | 2 => ("SuperDriver$Signs", "innerEnds", "[I", true)
  | 3 => ("SuperDriver$Signs", "outerEnds", "[I", true)
  | _ => ("SuperDriver$Signs", "embedded", "[J", true)
def ty_Signs : Nat → FieldType := fun k => match k with
  | 0 => (.array .int)
  | 1 => (.array .boolean)
  | 2 => (.array .int)
  | 3 => (.array .int)
  | _ => (.array .long)
def R_SourceProgram : String := "SuperDriver$SourceProgram"
def T_SourceProgram : u_T := fun k => match k with
  | 0 => ("SuperDriver$SourceProgram", "bodies", "[LSuperDriver$Row;", true)
  | 1 => ("SuperDriver$Program", "signs", "LSuperDriver$Signs;", true)
  | _ => ("SuperDriver$Program", "change", "LSuperDriver$Substitution;", true)
def ty_SourceProgram : Nat → FieldType := fun k => match k with
  | 0 => (.array (.object "SuperDriver$Row"))
  | 1 => (.object "SuperDriver$Signs")
  | _ => (.object "SuperDriver$Substitution")
def R_Tree : String := "SuperDriver$Tree"
def T_Tree : u_T := fun k => match k with
  | 0 => ("SuperDriver$Tree", "nodes", "[LSuperDriver$Node;", true)
  | 1 => ("SuperDriver$Tree", "count", "I", false)
  | 2 => ("SuperDriver$Tree", "nextVariable", "I", false)
  | _ => ("SuperDriver$Tree", "tooGreat", "Z", false)
def ty_Tree : Nat → FieldType := fun k => match k with
  | 0 => (.array (.object "SuperDriver$Node"))
  | 1 => .int
  | 2 => .int
  | _ => .boolean
def R_Node : String := "SuperDriver$Node"
def T_Node : u_T := fun k => match k with
  | 0 => ("SuperDriver$Node", "number", "I", true)
  | 1 => ("SuperDriver$Node", "term", "LSuperDriver$Row;", true)
  | 2 => ("SuperDriver$Node", "residual", "LSuperDriver$Row;", true)
  | 3 => ("SuperDriver$Node", "above", "LSuperDriver$Node;", false)
  | 4 => ("SuperDriver$Node", "firstBelow", "LSuperDriver$Node;", false)
  | 5 => ("SuperDriver$Node", "lastBelow", "LSuperDriver$Node;", false)
  | 6 => ("SuperDriver$Node", "beside", "LSuperDriver$Node;", false)
  | 7 => ("SuperDriver$Node", "kind", "I", false)
  | 8 => ("SuperDriver$Node", "detail", "I", false)
  | 9 => ("SuperDriver$Node", "target", "LSuperDriver$Node;", false)
  | 10 => ("SuperDriver$Node", "functional", "Z", false)
  | 11 => ("SuperDriver$Node", "clause", "I", false)
  | 12 => ("SuperDriver$Node", "clauseVariable", "I", false)
  | _ => ("SuperDriver$Node", "letVariable", "I", false)
def ty_Node : Nat → FieldType := fun k => match k with
  | 0 => .int
  | 1 => (.object "SuperDriver$Row")
  | 2 => (.object "SuperDriver$Row")
  | 3 => (.object "SuperDriver$Node")
  | 4 => (.object "SuperDriver$Node")
  | 5 => (.object "SuperDriver$Node")
  | 6 => (.object "SuperDriver$Node")
  | 7 => .int
  | 8 => .int
  | 9 => (.object "SuperDriver$Node")
  | 10 => .boolean
  | 11 => .int
  | 12 => .int
  | _ => .int
def R_Driver : String := "SuperDriver$Driver"
def T_Driver : u_T := fun k => match k with
  | 0 => ("SuperDriver$Driver", "signs", "LSuperDriver$Signs;", true)
  | 1 => ("SuperDriver$Driver", "source", "LSuperDriver$Program;", true)
  | 2 => ("SuperDriver$Driver", "tree", "LSuperDriver$Tree;", true)
  | 3 => ("SuperDriver$Driver", "change", "LSuperDriver$Substitution;", true)
  | 4 => ("SuperDriver$Driver", "generaliser", "LSuperDriver$Generaliser;", true)
  | 5 => ("SuperDriver$Driver", "unfolded", "LSuperDriver$Row;", true)
  | 6 => ("SuperDriver$Driver", "replaced", "LSuperDriver$Row;", true)
  | _ => ("SuperDriver$Driver", "pattern", "LSuperDriver$Row;", true)
def ty_Driver : Nat → FieldType := fun k => match k with
  | 0 => (.object "SuperDriver$Signs")
  | 1 => (.object "SuperDriver$Program")
  | 2 => (.object "SuperDriver$Tree")
  | 3 => (.object "SuperDriver$Substitution")
  | 4 => (.object "SuperDriver$Generaliser")
  | 5 => (.object "SuperDriver$Row")
  | 6 => (.object "SuperDriver$Row")
  | _ => (.object "SuperDriver$Row")
def R_Generaliser : String := "SuperDriver$Generaliser"
def T_Generaliser : u_T := fun k => match k with
  | 0 => ("SuperDriver$Generaliser", "signs", "LSuperDriver$Signs;", true)
  | 1 => ("SuperDriver$Generaliser", "tree", "LSuperDriver$Tree;", true)
  | 2 => ("SuperDriver$Generaliser", "general", "LSuperDriver$Row;", true)
  | 3 => ("SuperDriver$Generaliser", "upperStarts", "[I", true)
  | 4 => ("SuperDriver$Generaliser", "lowerStarts", "[I", true)
  | 5 => ("SuperDriver$Generaliser", "count", "I", false)
  | _ => ("SuperDriver$Generaliser", "firstVariable", "I", false)
def ty_Generaliser : Nat → FieldType := fun k => match k with
  | 0 => (.object "SuperDriver$Signs")
  | 1 => (.object "SuperDriver$Tree")
  | 2 => (.object "SuperDriver$Row")
  | 3 => (.array .int)
  | 4 => (.array .int)
  | 5 => .int
  | _ => .int
def R_ResidualProgram : String := "SuperDriver$ResidualProgram"
def T_ResidualProgram : u_T := fun k => match k with
  | 0 => ("SuperDriver$ResidualProgram", "tree", "LSuperDriver$Tree;", true)
  | 1 => ("SuperDriver$Program", "signs", "LSuperDriver$Signs;", true)
  | _ => ("SuperDriver$Program", "change", "LSuperDriver$Substitution;", true)
def ty_ResidualProgram : Nat → FieldType := fun k => match k with
  | 0 => (.object "SuperDriver$Tree")
  | 1 => (.object "SuperDriver$Signs")
  | _ => (.object "SuperDriver$Substitution")
def R_Runner : String := "SuperDriver$Runner"
def T_Runner : u_T := fun k => match k with
  | 0 => ("SuperDriver$Runner", "signs", "LSuperDriver$Signs;", true)
  | 1 => ("SuperDriver$Runner", "change", "LSuperDriver$Substitution;", true)
  | 2 => ("SuperDriver$Runner", "row", "LSuperDriver$Row;", false)
  | 3 => ("SuperDriver$Runner", "spare", "LSuperDriver$Row;", false)
  | 4 => ("SuperDriver$Runner", "ended", "I", false)
  | _ => ("SuperDriver$Runner", "made", "I", false)
def ty_Runner : Nat → FieldType := fun k => match k with
  | 0 => (.object "SuperDriver$Signs")
  | 1 => (.object "SuperDriver$Substitution")
  | 2 => (.object "SuperDriver$Row")
  | 3 => (.object "SuperDriver$Row")
  | 4 => .int
  | _ => .int
def R_Mo : String := "SuperDriverModel"
def T_Mo : u_T := fun k => match k with
  | 0 => ("SuperDriverModel", "thrown", "I", false)
  | 1 => ("SuperDriverModel", "size", "I", false)
  | 2 => ("SuperDriverModel", "text", "[I", true)
  | 3 => ("SuperDriverModel", "parts", "[I", true)
  | 4 => ("SuperDriverModel", "cased", "[Z", true)
  | 5 => ("SuperDriverModel", "bodies", "[I", true)
  | 6 => ("SuperDriverModel", "bodySize", "[I", true)
  | 7 => ("SuperDriverModel", "goalSize", "I", false)
  | 8 => ("SuperDriverModel", "goal", "[I", true)
  | 9 => ("SuperDriverModel", "inputs", "[I", true)
  | 10 => ("SuperDriverModel", "inputSize", "[I", true)
  | 11 => ("SuperDriverModel", "tree", "Z", false)
  | 12 => ("SuperDriverModel", "great", "Z", false)
  | 13 => ("SuperDriverModel", "nodes", "I", false)
  | 14 => ("SuperDriverModel", "variables", "I", false)
  | 15 => ("SuperDriverModel", "kind", "[I", true)
  | 16 => ("SuperDriverModel", "above", "[I", true)
  | 17 => ("SuperDriverModel", "terms", "[I", true)
  | 18 => ("SuperDriverModel", "termSize", "[I", true)
  | 19 => ("SuperDriverModel", "about", "[I", true)
  | 20 => ("SuperDriverModel", "below", "[I", true)
  | 21 => ("SuperDriverModel", "many", "[I", true)
  | 22 => ("SuperDriverModel", "fresh", "[I", true)
  | 23 => ("SuperDriverModel", "built", "[I", true)
  | 24 => ("SuperDriverModel", "born", "[I", true)
  | 25 => ("SuperDriverModel", "hasFunction", "[Z", true)
  | 26 => ("SuperDriverModel", "parameter", "[I", true)
  | 27 => ("SuperDriverModel", "parameters", "[I", true)
  | 28 => ("SuperDriverModel", "residuals", "[I", true)
  | 29 => ("SuperDriverModel", "residualSize", "[I", true)
  | 30 => ("SuperDriverModel", "rowSize", "I", false)
  | 31 => ("SuperDriverModel", "row", "[I", true)
  | 32 => ("SuperDriverModel", "other", "[I", true)
  | 33 => ("SuperDriverModel", "standsFrom", "[I", true)
  | 34 => ("SuperDriverModel", "standsTo", "[I", true)
  | 35 => ("SuperDriverModel", "into", "[I", true)
  | 36 => ("SuperDriverModel", "back", "[I", true)
  | 37 => ("SuperDriverModel", "embedded", "[Z", true)
  | 38 => ("SuperDriverModel", "commonSize", "I", false)
  | 39 => ("SuperDriverModel", "common", "[I", true)
  | 40 => ("SuperDriverModel", "pairs", "I", false)
  | 41 => ("SuperDriverModel", "upper", "[I", true)
  | 42 => ("SuperDriverModel", "lower", "[I", true)
  | 43 => ("SuperDriverModel", "ended", "I", false)
  | 44 => ("SuperDriverModel", "steps", "I", false)
  | 45 => ("SuperDriverModel", "resultSize", "I", false)
  | _ => ("SuperDriverModel", "result", "[I", true)
def ty_Mo : Nat → FieldType := fun k => match k with
  | 0 => .int
  | 1 => .int
  | 2 => (.array .int)
  | 3 => (.array .int)
  | 4 => (.array .boolean)
  | 5 => (.array .int)
  | 6 => (.array .int)
  | 7 => .int
  | 8 => (.array .int)
  | 9 => (.array .int)
  | 10 => (.array .int)
  | 11 => .boolean
  | 12 => .boolean
  | 13 => .int
  | 14 => .int
  | 15 => (.array .int)
  | 16 => (.array .int)
  | 17 => (.array .int)
  | 18 => (.array .int)
  | 19 => (.array .int)
  | 20 => (.array .int)
  | 21 => (.array .int)
  | 22 => (.array .int)
  | 23 => (.array .int)
  | 24 => (.array .int)
  | 25 => (.array .boolean)
  | 26 => (.array .int)
  | 27 => (.array .int)
  | 28 => (.array .int)
  | 29 => (.array .int)
  | 30 => .int
  | 31 => (.array .int)
  | 32 => (.array .int)
  | 33 => (.array .int)
  | 34 => (.array .int)
  | 35 => (.array .int)
  | 36 => (.array .int)
  | 37 => (.array .boolean)
  | 38 => .int
  | 39 => (.array .int)
  | 40 => .int
  | 41 => (.array .int)
  | 42 => (.array .int)
  | 43 => .int
  | 44 => .int
  | 45 => .int
  | _ => (.array .int)
def vwCl : List vw_C := [(R_SD, T_SD, 9), (R_Row, T_Row, 3), (R_Substitution, T_Substitution, 5), (R_Signs, T_Signs, 5), (R_SourceProgram, T_SourceProgram, 3), (R_Tree, T_Tree, 4), (R_Node, T_Node, 14), (R_Driver, T_Driver, 8), (R_Generaliser, T_Generaliser, 7), (R_ResidualProgram, T_ResidualProgram, 3), (R_Runner, T_Runner, 6), (R_Mo, T_Mo, 47)]
def tyOf : Nat → Nat → FieldType := fun ci => match ci with
  | 0 => ty_SD
  | 1 => ty_Row
  | 2 => ty_Substitution
  | 3 => ty_Signs
  | 4 => ty_SourceProgram
  | 5 => ty_Tree
  | 6 => ty_Node
  | 7 => ty_Driver
  | 8 => ty_Generaliser
  | 9 => ty_ResidualProgram
  | 10 => ty_Runner
  | _ => ty_Mo
def ctyp : Nat → FieldType := fun t => match t with
  | 1 => .int
  | 2 => .boolean
  | 3 => .long
  | 4 => .object "SuperDriver$Row"
  | _ => .object "SuperDriver$Node"
def NTY : Nat := 6
theorem NTY9 : NTY ≤ 9 := by decide
theorem NTY4 : 4 ≤ NTY := by decide
def tysL (CA : Nat → ClassId) : List (ClassId × FieldType) := (List.range 5).map (fun i => (CA (i + 1), ctyp (i + 1)))
theorem ctyp_ref {t : Nat} (h1 : 4 ≤ t) (h2 : t < NTY) : (ctyp t).isReference = true := by
  have h2 : t < 6 := h2
  rcases (show t = 4 ∨ t = 5 by omega) with rfl | rfl <;> rfl
theorem tb_in {i : Nat} {w : Cond} (h : tables_1[i]? = some w) : w ∈ lw_tbl := List.mem_append_right _ (List.mem_of_getElem? h)
theorem pv_in {i : Nat} {w : Cond} (h : (k2_sels lw_privs)[i]? = some w) : w ∈ lw_tbl := List.mem_append_left _ (List.mem_of_getElem? h)
def M_SD_init : Mth := (⟨"SuperDriver", "<init>", "()V"⟩, prog_1_method_1_code, 2, none, some [])
def M_SD_allInputsAreThere : Mth := (⟨"SuperDriver", "allInputsAreThere", "()Z"⟩, prog_1_method_16_code, 3, some .boolean, some [])
def M_SD_body : Mth := (⟨"SuperDriver", "body", "(II)V"⟩, prog_1_method_6_code, 3, none, some [])
def M_SD_drive : Mth := (⟨"SuperDriver", "drive", "()I"⟩, prog_1_method_9_code, 2, some .int, some [])
def M_SD_forget : Mth := (⟨"SuperDriver", "forget", "()V"⟩, prog_1_method_4_code, 2, none, some [])
def M_SD_function : Mth := (⟨"SuperDriver", "function", "(IIZ)V"⟩, prog_1_method_5_code, 4, none, some [])
def M_SD_goal : Mth := (⟨"SuperDriver", "goal", "()V"⟩, prog_1_method_7_code, 1, none, some [])
def M_SD_input : Mth := (⟨"SuperDriver", "input", "(I)Z"⟩, prog_1_method_8_code, 2, some .boolean, some [])
def M_SD_isCall : Mth := (⟨"SuperDriver", "isCall", "(I)Z"⟩, prog_1_method_21_code, 1, some .boolean, some [])
def M_SD_isConstructor : Mth := (⟨"SuperDriver", "isConstructor", "(I)Z"⟩, prog_1_method_20_code, 1, some .boolean, some [])
def M_SD_isVariable : Mth := (⟨"SuperDriver", "isVariable", "(I)Z"⟩, prog_1_method_19_code, 1, some .boolean, some [])
def M_SD_letterAt : Mth := (⟨"SuperDriver", "letterAt", "(JI)I"⟩, prog_1_method_17_code, 3, some .int, some [])
def M_SD_node : Mth := (⟨"SuperDriver", "node", "(II)I"⟩, prog_1_method_10_code, 4, some .int, some [])
def M_SD_partsOfConstructor : Mth := (⟨"SuperDriver", "partsOfConstructor", "(I)I"⟩, prog_1_method_22_code, 1, some .int, some [])
def M_SD_residual : Mth := (⟨"SuperDriver", "residual", "(II)I"⟩, prog_1_method_12_code, 4, some .int, some [])
def M_SD_result : Mth := (⟨"SuperDriver", "result", "(I)I"⟩, prog_1_method_14_code, 2, some .int, some [])
def M_SD_run : Mth := (⟨"SuperDriver", "run", "(ZI)I"⟩, prog_1_method_13_code, 4, some .int, some [])
def M_SD_signOf : Mth := (⟨"SuperDriver", "signOf", "(I)I"⟩, prog_1_method_18_code, 1, some .int, some [])
def M_SD_steps : Mth := (⟨"SuperDriver", "steps", "()I"⟩, prog_1_method_15_code, 1, some .int, some [])
def M_SD_term : Mth := (⟨"SuperDriver", "term", "(II)I"⟩, prog_1_method_11_code, 4, some .int, some [])
def M_SD_type : Mth := (⟨"SuperDriver", "type", "(J)Z"⟩, prog_1_method_2_code, 6, some .boolean, some [])
def M_SD_wipe : Mth := (⟨"SuperDriver", "wipe", "()V"⟩, prog_1_method_3_code, 1, none, some [])
def M_Driver_init : Mth := (⟨"SuperDriver$Driver", "<init>", "(LSuperDriver$Signs;LSuperDriver$Program;LSuperDriver$Tree;LSuperDriver$Substitution;)V"⟩, prog_2_method_1_code, 5, none, some [])
def M_Driver_addClause : Mth := (⟨"SuperDriver$Driver", "addClause", "(LSuperDriver$Node;III)V"⟩, prog_2_method_10_code, 7, none, some [])
def M_Driver_begin : Mth := (⟨"SuperDriver$Driver", "begin", "(LSuperDriver$Row;)V"⟩, prog_2_method_2_code, 2, none, some [])
def M_Driver_embeddedRival : Mth := (⟨"SuperDriver$Driver", "embeddedRival", "(LSuperDriver$Node;Z)LSuperDriver$Node;"⟩, prog_2_method_6_code, 4, some (.object "SuperDriver$Node"), some [])
def M_Driver_nextRival : Mth := (⟨"SuperDriver$Driver", "nextRival", "(LSuperDriver$Node;Z)LSuperDriver$Node;"⟩, prog_2_method_7_code, 3, some (.object "SuperDriver$Node"), some [])
def M_Driver_renamedRival : Mth := (⟨"SuperDriver$Driver", "renamedRival", "(LSuperDriver$Node;Z)LSuperDriver$Node;"⟩, prog_2_method_5_code, 3, some (.object "SuperDriver$Node"), some [])
def M_Driver_settle : Mth := (⟨"SuperDriver$Driver", "settle", "(I)V"⟩, prog_2_method_3_code, 9, none, some [])
def M_Driver_settleWithoutCall : Mth := (⟨"SuperDriver$Driver", "settleWithoutCall", "(LSuperDriver$Node;)V"⟩, prog_2_method_4_code, 7, none, some [])
def M_Driver_split : Mth := (⟨"SuperDriver$Driver", "split", "(LSuperDriver$Node;I)V"⟩, prog_2_method_9_code, 5, none, some [])
def M_Driver_step : Mth := (⟨"SuperDriver$Driver", "step", "(LSuperDriver$Node;I)V"⟩, prog_2_method_8_code, 3, none, some [])
def M_Generaliser_init : Mth := (⟨"SuperDriver$Generaliser", "<init>", "(LSuperDriver$Signs;LSuperDriver$Tree;)V"⟩, prog_3_method_1_code, 3, none, some [])
def M_Generaliser_generalise : Mth := (⟨"SuperDriver$Generaliser", "generalise", "(LSuperDriver$Node;LSuperDriver$Node;)V"⟩, prog_3_method_2_code, 3, none, some [])
def M_Generaliser_let : Mth := (⟨"SuperDriver$Generaliser", "let", "(LSuperDriver$Node;[I)V"⟩, prog_3_method_7_code, 4, none, some [])
def M_Generaliser_metBefore : Mth := (⟨"SuperDriver$Generaliser", "metBefore", "(LSuperDriver$Row;IILSuperDriver$Row;II)I"⟩, prog_3_method_5_code, 8, some .int, some [])
def M_Generaliser_newVariable : Mth := (⟨"SuperDriver$Generaliser", "newVariable", "(II)I"⟩, prog_3_method_6_code, 4, some .int, some [])
def M_Generaliser_takeApart : Mth := (⟨"SuperDriver$Generaliser", "takeApart", "(LSuperDriver$Row;)V"⟩, prog_3_method_3_code, 4, none, some [])
def M_Generaliser_takeCommon : Mth := (⟨"SuperDriver$Generaliser", "takeCommon", "(LSuperDriver$Row;LSuperDriver$Row;)V"⟩, prog_3_method_4_code, 9, none, some [])
def M_Node_init : Mth := (⟨"SuperDriver$Node", "<init>", "(I)V"⟩, prog_4_method_1_code, 2, none, some [])
def M_Node_become : Mth := (⟨"SuperDriver$Node", "become", "(II)V"⟩, prog_4_method_3_code, 3, none, some [])
def M_Node_dropBelow : Mth := (⟨"SuperDriver$Node", "dropBelow", "()V"⟩, prog_4_method_6_code, 1, none, some [])
def M_Node_fold : Mth := (⟨"SuperDriver$Node", "fold", "(LSuperDriver$Node;)V"⟩, prog_4_method_4_code, 2, none, some [])
def M_Node_isBelow : Mth := (⟨"SuperDriver$Node", "isBelow", "(LSuperDriver$Node;)Z"⟩, prog_4_method_7_code, 3, some .boolean, some [])
def M_Node_open : Mth := (⟨"SuperDriver$Node", "open", "(LSuperDriver$Node;LSuperDriver$Row;II)V"⟩, prog_4_method_2_code, 5, none, some [])
def M_Node_put : Mth := (⟨"SuperDriver$Node", "put", "(LSuperDriver$Node;)V"⟩, prog_4_method_5_code, 2, none, some [])
def M_Program_init : Mth := (⟨"SuperDriver$Program", "<init>", "(LSuperDriver$Signs;LSuperDriver$Substitution;)V"⟩, prog_5_method_1_code, 3, none, some [])
def M_Program_constructorAskedFor : Mth := (⟨"SuperDriver$Program", "constructorAskedFor", "(LSuperDriver$Row;I)I"⟩, prog_5_method_6_code, 4, some .int, some [])
def M_Program_unfold : Mth := (⟨"SuperDriver$Program", "unfold", "(LSuperDriver$Row;ILSuperDriver$Row;)V"⟩, prog_5_method_5_code, 11, none, some [])
def M_Program_unfolds : Mth := (⟨"SuperDriver$Program", "unfolds", "(LSuperDriver$Row;I)Z"⟩, prog_5_method_4_code, 4, some .boolean, some [])
def M_ResidualProgram_init : Mth := (⟨"SuperDriver$ResidualProgram", "<init>", "(LSuperDriver$Signs;LSuperDriver$Substitution;LSuperDriver$Tree;)V"⟩, prog_6_method_1_code, 4, none, some [])
def M_ResidualProgram_addAllBelow : Mth := (⟨"SuperDriver$ResidualProgram", "addAllBelow", "(LSuperDriver$Node;)V"⟩, prog_6_method_10_code, 2, none, some [])
def M_ResidualProgram_bodyOf : Mth := (⟨"SuperDriver$ResidualProgram", "bodyOf", "(II)LSuperDriver$Row;"⟩, prog_6_method_4_code, 5, some (.object "SuperDriver$Row"), some [])
def M_ResidualProgram_clauseBelow : Mth := (⟨"SuperDriver$ResidualProgram", "clauseBelow", "(LSuperDriver$Node;I)LSuperDriver$Node;"⟩, prog_6_method_6_code, 3, some (.object "SuperDriver$Node"), some [])
def M_ResidualProgram_markFunctions : Mth := (⟨"SuperDriver$ResidualProgram", "markFunctions", "()V"⟩, prog_6_method_7_code, 3, none, some [])
def M_ResidualProgram_start : Mth := (⟨"SuperDriver$ResidualProgram", "start", "()LSuperDriver$Row;"⟩, prog_6_method_2_code, 2, some (.object "SuperDriver$Row"), some [])
def M_ResidualProgram_variableOf : Mth := (⟨"SuperDriver$ResidualProgram", "variableOf", "(III)I"⟩, prog_6_method_5_code, 7, some .int, some [])
def M_ResidualProgram_write : Mth := (⟨"SuperDriver$ResidualProgram", "write", "()Z"⟩, prog_6_method_3_code, 3, some .boolean, some [])
def M_ResidualProgram_writeFold : Mth := (⟨"SuperDriver$ResidualProgram", "writeFold", "(LSuperDriver$Node;)V"⟩, prog_6_method_11_code, 4, none, some [])
def M_ResidualProgram_writeInline : Mth := (⟨"SuperDriver$ResidualProgram", "writeInline", "(LSuperDriver$Node;)V"⟩, prog_6_method_9_code, 2, none, some [])
def M_ResidualProgram_writeLet : Mth := (⟨"SuperDriver$ResidualProgram", "writeLet", "(LSuperDriver$Node;)V"⟩, prog_6_method_12_code, 5, none, some [])
def M_ResidualProgram_writeOwnCall : Mth := (⟨"SuperDriver$ResidualProgram", "writeOwnCall", "(LSuperDriver$Node;)V"⟩, prog_6_method_8_code, 5, none, some [])
def M_Row_init : Mth := (⟨"SuperDriver$Row", "<init>", "(I)V"⟩, prog_7_method_1_code, 2, none, some [])
def M_Row_add : Mth := (⟨"SuperDriver$Row", "add", "(I)V"⟩, prog_7_method_7_code, 2, none, some [])
def M_Row_addRange : Mth := (⟨"SuperDriver$Row", "addRange", "(LSuperDriver$Row;II)V"⟩, prog_7_method_8_code, 7, none, some [])
def M_Row_at : Mth := (⟨"SuperDriver$Row", "at", "(I)I"⟩, prog_7_method_5_code, 2, some .int, some [])
def M_Row_clear : Mth := (⟨"SuperDriver$Row", "clear", "()V"⟩, prog_7_method_6_code, 1, none, some [])
def M_Row_copy : Mth := (⟨"SuperDriver$Row", "copy", "(LSuperDriver$Row;)V"⟩, prog_7_method_9_code, 2, none, some [])
def M_Row_indexOf : Mth := (⟨"SuperDriver$Row", "indexOf", "(I)I"⟩, prog_7_method_10_code, 3, some .int, some [])
def M_Row_isEmpty : Mth := (⟨"SuperDriver$Row", "isEmpty", "()Z"⟩, prog_7_method_3_code, 1, some .boolean, some [])
def M_Row_isRenamingOf : Mth := (⟨"SuperDriver$Row", "isRenamingOf", "(LSuperDriver$Row;)Z"⟩, prog_7_method_12_code, 5, some .boolean, some [])
def M_Row_isTooLong : Mth := (⟨"SuperDriver$Row", "isTooLong", "()Z"⟩, prog_7_method_4_code, 1, some .boolean, some [])
def M_Row_length : Mth := (⟨"SuperDriver$Row", "length", "()I"⟩, prog_7_method_2_code, 1, some .int, some [])
def M_Row_repeats : Mth := (⟨"SuperDriver$Row", "repeats", "(III)Z"⟩, prog_7_method_11_code, 5, some .boolean, some [])
def M_Runner_init : Mth := (⟨"SuperDriver$Runner", "<init>", "(LSuperDriver$Signs;LSuperDriver$Substitution;)V"⟩, prog_8_method_1_code, 3, none, some [])
def M_Runner_begin : Mth := (⟨"SuperDriver$Runner", "begin", "(LSuperDriver$Row;[LSuperDriver$Row;)V"⟩, prog_8_method_3_code, 4, none, some [])
def M_Runner_clear : Mth := (⟨"SuperDriver$Runner", "clear", "()V"⟩, prog_8_method_2_code, 1, none, some [])
def M_Runner_constructorAt : Mth := (⟨"SuperDriver$Runner", "constructorAt", "(I)I"⟩, prog_8_method_6_code, 2, some .int, some [])
def M_Runner_go : Mth := (⟨"SuperDriver$Runner", "go", "(LSuperDriver$Program;I)I"⟩, prog_8_method_4_code, 5, some .int, some [])
def M_Runner_judge : Mth := (⟨"SuperDriver$Runner", "judge", "(LSuperDriver$Program;II)I"⟩, prog_8_method_7_code, 4, some .int, some [])
def M_Runner_stepsMade : Mth := (⟨"SuperDriver$Runner", "stepsMade", "()I"⟩, prog_8_method_5_code, 1, some .int, some [])
def M_Signs_init : Mth := (⟨"SuperDriver$Signs", "<init>", "()V"⟩, prog_9_method_1_code, 2, none, some [])
def M_Signs_behind : Mth := (⟨"SuperDriver$Signs", "behind", "(LSuperDriver$Row;I)I"⟩, prog_9_method_5_code, 5, some .int, some [])
def M_Signs_couples : Mth := (⟨"SuperDriver$Signs", "couples", "(IIII)Z"⟩, prog_9_method_11_code, 8, some .boolean, some [])
def M_Signs_embeddedInParts : Mth := (⟨"SuperDriver$Signs", "embeddedInParts", "(II)J"⟩, prog_9_method_10_code, 7, some .long, some [])
def M_Signs_findEnds : Mth := (⟨"SuperDriver$Signs", "findEnds", "(LSuperDriver$Row;[I)V"⟩, prog_9_method_13_code, 7, none, some [])
def M_Signs_isCased : Mth := (⟨"SuperDriver$Signs", "isCased", "(I)Z"⟩, prog_9_method_4_code, 2, some .boolean, some [])
def M_Signs_isEmbedded : Mth := (⟨"SuperDriver$Signs", "isEmbedded", "(LSuperDriver$Row;LSuperDriver$Row;)Z"⟩, prog_9_method_9_code, 7, some .boolean, some [])
def M_Signs_isMarked : Mth := (⟨"SuperDriver$Signs", "isMarked", "(II)Z"⟩, prog_9_method_12_code, 3, some .boolean, some [])
def M_Signs_isTerm : Mth := (⟨"SuperDriver$Signs", "isTerm", "(LSuperDriver$Row;)Z"⟩, prog_9_method_6_code, 5, some .boolean, some [])
def M_Signs_isValue : Mth := (⟨"SuperDriver$Signs", "isValue", "(LSuperDriver$Row;)Z"⟩, prog_9_method_7_code, 3, some .boolean, some [])
def M_Signs_nextCall : Mth := (⟨"SuperDriver$Signs", "nextCall", "(LSuperDriver$Row;)I"⟩, prog_9_method_8_code, 4, some .int, some [])
def M_Signs_partsOf : Mth := (⟨"SuperDriver$Signs", "partsOf", "(I)I"⟩, prog_9_method_3_code, 2, some .int, some [])
def M_Signs_shape : Mth := (⟨"SuperDriver$Signs", "shape", "(IIZ)V"⟩, prog_9_method_2_code, 4, none, some [])
def M_SourceProgram_init : Mth := (⟨"SuperDriver$SourceProgram", "<init>", "(LSuperDriver$Signs;LSuperDriver$Substitution;)V"⟩, prog_10_method_1_code, 4, none, some [])
def M_SourceProgram_bodyOf : Mth := (⟨"SuperDriver$SourceProgram", "bodyOf", "(II)LSuperDriver$Row;"⟩, prog_10_method_7_code, 4, some (.object "SuperDriver$Row"), some [])
def M_SourceProgram_clear : Mth := (⟨"SuperDriver$SourceProgram", "clear", "()V"⟩, prog_10_method_2_code, 2, none, some [])
def M_SourceProgram_declare : Mth := (⟨"SuperDriver$SourceProgram", "declare", "(IIZ)V"⟩, prog_10_method_4_code, 4, none, some [])
def M_SourceProgram_define : Mth := (⟨"SuperDriver$SourceProgram", "define", "(IILSuperDriver$Row;)V"⟩, prog_10_method_6_code, 5, none, some [])
def M_SourceProgram_isDeclared : Mth := (⟨"SuperDriver$SourceProgram", "isDeclared", "(I)Z"⟩, prog_10_method_3_code, 2, some .boolean, some [])
def M_SourceProgram_mayHave : Mth := (⟨"SuperDriver$SourceProgram", "mayHave", "(IILSuperDriver$Row;)Z"⟩, prog_10_method_5_code, 6, some .boolean, some [])
def M_SourceProgram_placeOf : Mth := (⟨"SuperDriver$SourceProgram", "placeOf", "(II)LSuperDriver$Row;"⟩, prog_10_method_9_code, 4, some (.object "SuperDriver$Row"), some [])
def M_SourceProgram_variableOf : Mth := (⟨"SuperDriver$SourceProgram", "variableOf", "(III)I"⟩, prog_10_method_8_code, 4, some .int, some [])
def M_Substitution_init : Mth := (⟨"SuperDriver$Substitution", "<init>", "()V"⟩, prog_11_method_1_code, 1, none, some [])
def M_Substitution_apply : Mth := (⟨"SuperDriver$Substitution", "apply", "(LSuperDriver$Row;LSuperDriver$Row;)V"⟩, prog_11_method_4_code, 5, none, some [])
def M_Substitution_begin : Mth := (⟨"SuperDriver$Substitution", "begin", "()V"⟩, prog_11_method_2_code, 1, none, some [])
def M_Substitution_bind : Mth := (⟨"SuperDriver$Substitution", "bind", "(ILSuperDriver$Row;II)V"⟩, prog_11_method_3_code, 5, none, some [])
def M_Tree_init : Mth := (⟨"SuperDriver$Tree", "<init>", "()V"⟩, prog_12_method_1_code, 2, none, some [])
def M_Tree_add : Mth := (⟨"SuperDriver$Tree", "add", "(LSuperDriver$Node;LSuperDriver$Row;II)LSuperDriver$Node;"⟩, prog_12_method_7_code, 6, some (.object "SuperDriver$Node"), some [])
def M_Tree_clear : Mth := (⟨"SuperDriver$Tree", "clear", "()V"⟩, prog_12_method_2_code, 1, none, some [])
def M_Tree_count : Mth := (⟨"SuperDriver$Tree", "count", "()I"⟩, prog_12_method_3_code, 1, some .int, some [])
def M_Tree_get : Mth := (⟨"SuperDriver$Tree", "get", "(I)LSuperDriver$Node;"⟩, prog_12_method_5_code, 2, some (.object "SuperDriver$Node"), some [])
def M_Tree_isTooGreat : Mth := (⟨"SuperDriver$Tree", "isTooGreat", "()Z"⟩, prog_12_method_4_code, 1, some .boolean, some [])
def M_Tree_newVariable : Mth := (⟨"SuperDriver$Tree", "newVariable", "()I"⟩, prog_12_method_6_code, 1, some .int, some [])
def M_Tree_removeBelow : Mth := (⟨"SuperDriver$Tree", "removeBelow", "(LSuperDriver$Node;)V"⟩, prog_12_method_8_code, 4, none, some [])
def M_Law_body : Mth := (⟨"SuperDriverLaw", "body", "(LSuperDriver;II)I"⟩, method_4_code, 4, some .int, some [(0, 6, 9, 15), (0, 6, 12, 13)])
def M_Law_drive : Mth := (⟨"SuperDriverLaw", "drive", "(LSuperDriver;[J)I"⟩, method_6_code, 3, some .int, some [(0, 8, 11, 15), (0, 8, 14, 28)])
def M_Law_function : Mth := (⟨"SuperDriverLaw", "function", "(LSuperDriver;IIZ)I"⟩, method_3_code, 5, some .int, some [(0, 7, 10, 13), (0, 7, 14, 15)])
def M_Law_goal : Mth := (⟨"SuperDriverLaw", "goal", "(LSuperDriver;)I"⟩, method_5_code, 2, some .int, some [(0, 4, 7, 13)])
def M_Law_run : Mth := (⟨"SuperDriverLaw", "run", "(LSuperDriver;ZI[J)I"⟩, method_7_code, 5, some .int, some [(0, 10, 13, 13), (0, 10, 17, 15)])
def M_Mo_init : Mth := (⟨"SuperDriverModel", "<init>", "()V"⟩, prog_14_method_1_code, 1, none, some [])
def M_Mo_add : Mth := (⟨"SuperDriverModel", "add", "(I[III)V"⟩, prog_14_method_24_code, 6, none, some [])
def M_Mo_alike : Mth := (⟨"SuperDriverModel", "alike", "([II[III)Z"⟩, prog_14_method_8_code, 8, some .boolean, some [])
def M_Mo_areParts : Mth := (⟨"SuperDriverModel", "areParts", "(IIIII)Z"⟩, prog_14_method_31_code, 10, some .boolean, some [])
def M_Mo_becomes : Mth := (⟨"SuperDriverModel", "becomes", "(II)V"⟩, prog_14_method_25_code, 3, none, some [])
def M_Mo_begin : Mth := (⟨"SuperDriverModel", "begin", "(Z)V"⟩, prog_14_method_53_code, 6, none, some [])
def M_Mo_bind : Mth := (⟨"SuperDriverModel", "bind", "(II)I"⟩, prog_14_method_22_code, 10, some .int, some [])
def M_Mo_body : Mth := (⟨"SuperDriverModel", "body", "(II)V"⟩, prog_14_method_15_code, 6, none, some [])
def M_Mo_bodyOf : Mth := (⟨"SuperDriverModel", "bodyOf", "(I)I"⟩, prog_14_method_20_code, 5, some .int, some [])
def M_Mo_build : Mth := (⟨"SuperDriverModel", "build", "(I)V"⟩, prog_14_method_33_code, 5, none, some [])
def M_Mo_builtOf : Mth := (⟨"SuperDriverModel", "builtOf", "(I)I"⟩, prog_14_method_5_code, 1, some .int, some [])
def M_Mo_differ : Mth := (⟨"SuperDriverModel", "differ", "(III)V"⟩, prog_14_method_35_code, 9, none, some [])
def M_Mo_drive : Mth := (⟨"SuperDriverModel", "drive", "()I"⟩, prog_14_method_41_code, 2, some .int, some [])
def M_Mo_end : Mth := (⟨"SuperDriverModel", "end", "([II)I"⟩, prog_14_method_7_code, 5, some .int, some [])
def M_Mo_findFunctions : Mth := (⟨"SuperDriverModel", "findFunctions", "()V"⟩, prog_14_method_42_code, 4, none, some [])
def M_Mo_forget : Mth := (⟨"SuperDriverModel", "forget", "()V"⟩, prog_14_method_13_code, 2, none, some [])
def M_Mo_function : Mth := (⟨"SuperDriverModel", "function", "(IIZ)V"⟩, prog_14_method_14_code, 5, none, some [])
def M_Mo_generalise : Mth := (⟨"SuperDriverModel", "generalise", "(II)V"⟩, prog_14_method_36_code, 8, none, some [])
def M_Mo_goBelow : Mth := (⟨"SuperDriverModel", "goBelow", "(I)V"⟩, prog_14_method_38_code, 4, none, some [])
def M_Mo_goal : Mth := (⟨"SuperDriverModel", "goal", "()V"⟩, prog_14_method_16_code, 1, none, some [])
def M_Mo_hasInputs : Mth := (⟨"SuperDriverModel", "hasInputs", "()Z"⟩, prog_14_method_52_code, 3, some .boolean, some [])
def M_Mo_hold : Mth := (⟨"SuperDriverModel", "hold", "(II)V"⟩, prog_14_method_43_code, 4, none, some [])
def M_Mo_input : Mth := (⟨"SuperDriverModel", "input", "(I)Z"⟩, prog_14_method_17_code, 2, some .boolean, some [])
def M_Mo_isCased : Mth := (⟨"SuperDriverModel", "isCased", "(I)Z"⟩, prog_14_method_18_code, 2, some .boolean, some [])
def M_Mo_isEmbedded : Mth := (⟨"SuperDriverModel", "isEmbedded", "(II)Z"⟩, prog_14_method_30_code, 10, some .boolean, some [])
def M_Mo_isNode : Mth := (⟨"SuperDriverModel", "isNode", "(I)Z"⟩, prog_14_method_48_code, 2, some .boolean, some [])
def M_Mo_isRenaming : Mth := (⟨"SuperDriverModel", "isRenaming", "(II)Z"⟩, prog_14_method_29_code, 3, some .boolean, some [])
def M_Mo_isTerm : Mth := (⟨"SuperDriverModel", "isTerm", "(IZ)Z"⟩, prog_14_method_9_code, 8, some .boolean, some [])
def M_Mo_let : Mth := (⟨"SuperDriverModel", "let", "(II[I)V"⟩, prog_14_method_37_code, 5, none, some [])
def M_Mo_load : Mth := (⟨"SuperDriverModel", "load", "(I)V"⟩, prog_14_method_27_code, 3, none, some [])
def M_Mo_lowestOpen : Mth := (⟨"SuperDriverModel", "lowestOpen", "()I"⟩, prog_14_method_40_code, 2, some .int, some [])
def M_Mo_nextCall : Mth := (⟨"SuperDriverModel", "nextCall", "()I"⟩, prog_14_method_19_code, 2, some .int, some [])
def M_Mo_node : Mth := (⟨"SuperDriverModel", "node", "(II)I"⟩, prog_14_method_49_code, 3, some .int, some [])
def M_Mo_partsOf : Mth := (⟨"SuperDriverModel", "partsOf", "(I)I"⟩, prog_14_method_6_code, 2, some .int, some [])
def M_Mo_put : Mth := (⟨"SuperDriverModel", "put", "(I)V"⟩, prog_14_method_44_code, 2, none, some [])
def M_Mo_putCall : Mth := (⟨"SuperDriverModel", "putCall", "(I)V"⟩, prog_14_method_46_code, 3, none, some [])
def M_Mo_putResidual : Mth := (⟨"SuperDriverModel", "putResidual", "(I)V"⟩, prog_14_method_45_code, 3, none, some [])
def M_Mo_renames : Mth := (⟨"SuperDriverModel", "renames", "([III[III)Z"⟩, prog_14_method_28_code, 11, some .boolean, some [])
def M_Mo_renew : Mth := (⟨"SuperDriverModel", "renew", "(I)I"⟩, prog_14_method_26_code, 3, some .int, some [])
def M_Mo_residual : Mth := (⟨"SuperDriverModel", "residual", "(II)I"⟩, prog_14_method_51_code, 3, some .int, some [])
def M_Mo_result : Mth := (⟨"SuperDriverModel", "result", "(I)I"⟩, prog_14_method_55_code, 2, some .int, some [])
def M_Mo_rival : Mth := (⟨"SuperDriverModel", "rival", "(IZZ)I"⟩, prog_14_method_32_code, 5, some .int, some [])
def M_Mo_run : Mth := (⟨"SuperDriverModel", "run", "(ZI)I"⟩, prog_14_method_54_code, 5, some .int, some [])
def M_Mo_signOf : Mth := (⟨"SuperDriverModel", "signOf", "(I)I"⟩, prog_14_method_4_code, 1, some .int, some [])
def M_Mo_split : Mth := (⟨"SuperDriverModel", "split", "(II)V"⟩, prog_14_method_34_code, 9, none, some [])
def M_Mo_stand : Mth := (⟨"SuperDriverModel", "stand", "(II)I"⟩, prog_14_method_21_code, 3, some .int, some [])
def M_Mo_steps : Mth := (⟨"SuperDriverModel", "steps", "()I"⟩, prog_14_method_56_code, 1, some .int, some [])
def M_Mo_takeText : Mth := (⟨"SuperDriverModel", "takeText", "([II)I"⟩, prog_14_method_10_code, 4, some .int, some [])
def M_Mo_term : Mth := (⟨"SuperDriverModel", "term", "(II)I"⟩, prog_14_method_50_code, 3, some .int, some [])
def M_Mo_throwing : Mth := (⟨"SuperDriverModel", "throwing", "(ZZ)Z"⟩, prog_14_method_3_code, 3, some .boolean, some [])
def M_Mo_thrown : Mth := (⟨"SuperDriverModel", "thrown", "()I"⟩, prog_14_method_2_code, 1, some .int, some [])
def M_Mo_turn : Mth := (⟨"SuperDriverModel", "turn", "(I)V"⟩, prog_14_method_39_code, 7, none, some [])
def M_Mo_type : Mth := (⟨"SuperDriverModel", "type", "(J)Z"⟩, prog_14_method_11_code, 6, some .boolean, some [])
def M_Mo_unfold : Mth := (⟨"SuperDriverModel", "unfold", "(I)V"⟩, prog_14_method_23_code, 11, none, some [])
def M_Mo_wipe : Mth := (⟨"SuperDriverModel", "wipe", "()V"⟩, prog_14_method_12_code, 1, none, some [])
def M_Mo_write : Mth := (⟨"SuperDriverModel", "write", "(I)V"⟩, prog_14_method_47_code, 4, none, some [])
end
section
/-! shapes, memory, contexts -/
abbrev Sh : Type := Nat × Nat
abbrev Mem : Type := (Nat → Nat → Int32) × (Nat → Nat → Option Nat) × (Nat → Nat → Int64)
abbrev Ctx : Type := Launch × State × Array Value × va_G × (Nat → ClassId)
abbrev Ev : Type := Room × Nat × Nat × (List Frame → Array Value → State → State → Prop)
def cL (G : Ctx) : Launch := G.1
def cS (G : Ctx) : State := G.2.1
def cA0 (G : Ctx) : Array Value := G.2.2.1
def cD (G : Ctx) : va_G := G.2.2.2.1
def cCA (G : Ctx) : Nat → ClassId := G.2.2.2.2
def cB (G : Ctx) : Nat := (cS G).heap.size
def my (M : Mth) : MethodName := M.1
def mcd (M : Mth) : ByteArray := M.2.1
def mL (M : Mth) : Nat := M.2.2.1
def mrt (M : Mth) : Option FieldType := M.2.2.2.1
def mhh (M : Mth) : Option (List (Nat × Nat × Nat × Nat)) := M.2.2.2.2
def rf (G : Ctx) (k : Nat) : Value := .ref (cB G + k)
def ov (G : Ctx) : Option Nat → Value
  | none => .null
  | some k => rf G k
theorem ov_rf (G : Ctx) (o : Option Nat) : ov G o = va_rf (o.map (cB G + ·)) := by cases o <;> rfl
theorem ov_or (G : Ctx) (o : Option Nat) : ov G o = .null ∨ ∃ a, ov G o = .ref a := by
  cases o with
  | none => exact Or.inl rfl
  | some k => exact Or.inr ⟨_, rfl⟩
def wI (σ : Mem) (a j : Nat) (v : Int32) : Mem := (fun k i => if k = a ∧ i = j then v else σ.1 k i, σ.2)
def wR (σ : Mem) (a j : Nat) (v : Option Nat) : Mem := (σ.1, fun k i => if k = a ∧ i = j then v else σ.2.1 k i, σ.2.2)
def wL (σ : Mem) (a j : Nat) (v : Int64) : Mem := (σ.1, σ.2.1, fun k i => if k = a ∧ i = j then v else σ.2.2 k i)
/-- a field's value by its type -/
def fval (G : Ctx) (mi : Nat → Int32) (mr : Nat → Option Nat) (ml : Nat → Int64) (j : Nat) (ty : FieldType) : Value := match ty with
  | .object _ => ov G (mr j)
  | .array _ => ov G (mr j)
  | .long => .long (ml j)
  | _ => .int (mi j)
def cellOK (G : Ctx) (mi : Nat → Int32) (mr : Nat → Option Nat) (ml : Nat → Int64) (k : Nat) (sh : Sh) (H : Heap) : Prop := match sh with
  | (0, ci) => ∃ r : vw_C, vwCl[ci]? = some r ∧ t_OB (cB G + k) ((cD G).1 ci) r.2.2 ((cD G).2 ci) H (fun j => fval G mi mr ml j (tyOf ci j))
  | (1, n) => H[cB G + k]? = some (arrV (cCA G 1) n (fun i => .int (mi i)))
  | (2, n) => H[cB G + k]? = some (arrV (cCA G 2) n (fun i => .int (mi i)))
  | (3, n) => H[cB G + k]? = some (arrV (cCA G 3) n (fun i => .long (ml i)))
  | (t, n) => t < 9 → H[cB G + k]? = some (arrV (cCA G t) n (fun i => ov G (mr i)))
def VH (G : Ctx) (Γ : List Sh) (σ : Mem) (H : Heap) : Prop := H.size = cB G + Γ.length ∧ ∀ (k : Nat) (sh : Sh), Γ[k]? = some sh → cellOK G (σ.1 k) (σ.2.1 k) (σ.2.2 k) k sh H
def Out (G : Ctx) (H : Heap) : Prop := ∀ q : Nat, q < cB G → H[q]? = (cS G).heap[q]?
def fre (G : Ctx) : Nat → Prop := fun q => cB G ≤ q
theorem cellOK.kept {G : Ctx} {mi : Nat → Int32} {mr : Nat → Option Nat} {ml : Nat → Int64} {k : Nat} {sh : Sh} {H H1 : Heap} (h : cellOK G mi mr ml k sh H) (hq : H1[cB G + k]? = H[cB G + k]?) : cellOK G mi mr ml k sh H1 := by
  unfold cellOK at h ⊢
  split at h
  · obtain ⟨r, h1, h2⟩ := h
    exact ⟨r, h1, h2.kept hq⟩
  · rw [hq]; exact h
  · rw [hq]; exact h
  · rw [hq]; exact h
  · rw [hq]; exact h
theorem VH.upd {G : Ctx} {Γ : List Sh} {σ σ' : Mem} {H H1 : Heap} {a : Nat} {sh : Sh} (hV : VH G Γ σ H) (hk : Γ[a]? = some sh) (h1 : ∀ k, k ≠ a → σ'.1 k = σ.1 k) (h2 : ∀ k, k ≠ a → σ'.2.1 k = σ.2.1 k) (h3 : ∀ k, k ≠ a → σ'.2.2 k = σ.2.2 k)
    (hz : H1.size = H.size) (ho : ∀ q : Nat, q ≠ cB G + a → H1[q]? = H[q]?) (hc : cellOK G (σ'.1 a) (σ'.2.1 a) (σ'.2.2 a) a sh H1) : VH G Γ σ' H1 := by
  refine ⟨hz.trans hV.1, fun k s hs => ?_⟩
  by_cases e : k = a
  · subst e
    cases Option.some.inj (hk.symm.trans hs)
    exact hc
  · rw [h1 k e, h2 k e, h3 k e]
    exact (hV.2 k s hs).kept (ho _ (by omega))
/-! locals: by number; values of two words beside them -/
def asc (lv : List (Option Value)) : List (Nat × Value) := (List.range lv.length).filterMap (fun i => (lv[i]?.join).map (fun v => (i, v)))
theorem asc_mem {lv : List (Option Value)} {i : Nat} {v : Value} : (i, v) ∈ asc lv ↔ lv[i]? = some (some v) := by
  unfold asc
  rw [List.mem_filterMap]
  constructor
  · rintro ⟨j, -, hj⟩
    cases h : lv[j]? with
    | none => rw [h] at hj; cases hj
    | some o =>
      cases o with
      | none => rw [h] at hj; cases hj
      | some w =>
        rw [h] at hj
        simp at hj
        obtain ⟨rfl, rfl⟩ := hj
        exact h
  · intro h
    refine ⟨i, List.mem_range.mpr (List.getElem?_eq_some_iff.mp h).1, ?_⟩
    rw [h]
    rfl
def lal (ll : List (Nat × Int64)) : List (Nat × Value) := ll.map (fun q => (q.1, .long q.2))
def lvR (ls : Array Slot) (nL : Nat) (lv : List (Option Value)) (ll : List (Nat × Int64)) : Prop := lv_has ls nL (asc lv ++ lal ll) ∧ ∀ (i : Nat) (v : Value), lv[i]? = some (some v) → v.category = 1
theorem lvR.at {ls : Array Slot} {nL : Nat} {lv : List (Option Value)} {ll : List (Nat × Int64)} (h : lvR ls nL lv ll) {i : Nat} {v : Value} (hi : lv[i]? = some (some v)) : ls[i]? = some (.val v) := h.1.2.2 (i, v) (List.mem_append_left _ (asc_mem.mpr hi))
theorem lvR.atL {ls : Array Slot} {nL : Nat} {lv : List (Option Value)} {ll : List (Nat × Int64)} (h : lvR ls nL lv ll) {i : Nat} {x : Int64} (hi : (i, x) ∈ ll) : ls[i]? = some (.val (.long x)) := h.1.2.2 (i, .long x) (List.mem_append_right _ (List.mem_map.mpr ⟨(i, x), hi, rfl⟩))
theorem lvR.put {ls : Array Slot} {nL : Nat} {lv : List (Option Value)} {ll : List (Nat × Int64)} (hc : ∀ (i : Nat) (v : Value), lv[i]? = some (some v) → v.category = 1) {i : Nat} {v : Value} (hv : v.category = 1) (hll : ll.all (fun q => !(q.1 == i) && !(q.1 + 1 == i)) = true)
    (h : lv_has ls nL ((i, v) :: (asc lv ++ lal ll).filter (fun q => !(q.1 == i) && !(q.1 + 1 == i && q.2.category == 2)))) : lvR ls nL (lv.set i (some v)) ll := by
  have key : ∀ (j : Nat) (w : Value), (lv.set i (some v))[j]? = some (some w) → (j = i ∧ w = v) ∨ (j ≠ i ∧ lv[j]? = some (some w)) := by
    intro j w hj
    rw [List.getElem?_set] at hj
    by_cases e : i = j
    · rw [if_pos e] at hj
      split at hj
      · cases hj; exact Or.inl ⟨e.symm, rfl⟩
      · cases hj
    · rw [if_neg e] at hj
      exact Or.inr ⟨fun z => e z.symm, hj⟩
  refine ⟨⟨h.1, h.2.1, fun q hq => ?_⟩, fun j w hj => ?_⟩
  · obtain ⟨j, w⟩ := q
    rcases List.mem_append.mp hq with hq | hq
    · rcases key j w (asc_mem.mp hq) with ⟨rfl, rfl⟩ | ⟨hne, hj⟩
      · exact h.2.2 _ List.mem_cons_self
      · refine h.2.2 _ (List.mem_cons_of_mem _ (List.mem_filter.mpr ⟨List.mem_append_left _ (asc_mem.mpr hj), ?_⟩))
        have h1 := hc j w hj
        simp [hne, h1]
    · refine h.2.2 _ (List.mem_cons_of_mem _ (List.mem_filter.mpr ⟨List.mem_append_right _ hq, ?_⟩))
      obtain ⟨q0, hq0, e0⟩ := List.mem_map.mp hq
      have h1 := List.all_eq_true.mp hll q0 hq0
      cases e0
      simp at h1 ⊢
      exact ⟨h1.1, Or.inl h1.2⟩
  · rcases key j w hj with ⟨rfl, rfl⟩ | ⟨-, hj⟩
    · exact hv
    · exact hc j w hj
theorem lvR.putL {ls : Array Slot} {nL : Nat} {lv : List (Option Value)} {ll : List (Nat × Int64)} (hc : ∀ (i : Nat) (v : Value), lv[i]? = some (some v) → v.category = 1) {i : Nat} {x : Int64} (hll : ll.all (fun q => (q.1 == i) || (!(q.1 == i + 1) && !(q.1 + 1 == i))) = true)
    (h : lv_has ls nL ((i, .long x) :: (asc lv ++ lal ll).filter (fun q => !(q.1 == i) && (!(q.1 == i + 1) && !(q.1 + 1 == i && q.2.category == 2))))) : lvR ls nL ((lv.set i none).set (i + 1) none) ((i, x) :: ll.filter (fun q => !(q.1 == i))) := by
  have key : ∀ (j : Nat) (w : Value), ((lv.set i none).set (i + 1) none)[j]? = some (some w) → j ≠ i ∧ j ≠ i + 1 ∧ lv[j]? = some (some w) := by
    intro j w hj
    rw [List.getElem?_set] at hj
    by_cases e : i + 1 = j
    · rw [if_pos e] at hj
      split at hj <;> cases hj
    · rw [if_neg e, List.getElem?_set] at hj
      by_cases e2 : i = j
      · rw [if_pos e2] at hj
        split at hj <;> cases hj
      · rw [if_neg e2] at hj
        exact ⟨fun z => e2 z.symm, fun z => e z.symm, hj⟩
  refine ⟨⟨h.1, h.2.1, fun q hq => ?_⟩, fun j w hj => hc j w (key j w hj).2.2⟩
  obtain ⟨j, w⟩ := q
  rcases List.mem_append.mp hq with hq | hq
  · obtain ⟨h1, h2, h3⟩ := key j w (asc_mem.mp hq)
    refine h.2.2 _ (List.mem_cons_of_mem _ (List.mem_filter.mpr ⟨List.mem_append_left _ (asc_mem.mpr h3), ?_⟩))
    have h4 := hc j w h3
    simp [h1, h2, h4]
  · obtain ⟨q0, hq0, e0⟩ := List.mem_map.mp hq
    cases e0
    rcases List.mem_cons.mp hq0 with hq0 | hq0
    · subst hq0
      exact h.2.2 _ List.mem_cons_self
    · obtain ⟨g1, g2⟩ := List.mem_filter.mp hq0
      refine h.2.2 _ (List.mem_cons_of_mem _ (List.mem_filter.mpr ⟨List.mem_append_right _ (List.mem_map.mpr ⟨q0, g1, rfl⟩), ?_⟩))
      have h1 := List.all_eq_true.mp hll q0 g1
      simp at h1 g2 ⊢
      rcases h1 with h1 | h1
      · exact absurd h1 g2
      · exact ⟨g2, h1.1, Or.inl h1.2⟩
/-! contexts and the judgement -/
def eR (E : Ev) : Room := E.1
def eC (E : Ev) : Nat := E.2.1
def eM (E : Ev) : Nat := E.2.2.1
def eZ (E : Ev) : List Frame → Array Value → State → State → Prop := E.2.2.2
def EXc (G : Ctx) : Prop := (Jvm.Cond.and given_1 narrow_1).before (cA0 G) (cS G) = true ∧ (cL G).stackTraces = false
def OKc (G : Ctx) : Prop := (∀ w ∈ lw_tbl, w.before (cA0 G) (cS G) = true) ∧ va_K (cD G) vwCl (tysL (cCA G)) (cS G) ∧ EXc G
def Cx (G : Ctx) (M : Mth) (p : Program) (s : State) (m : MethodId) (meth : Method) (c : Code) : Prop :=
  OKc G ∧ p.tables.exec = Jvm.exec ∧ c.code = mcd M ∧ meth.sig.returnType = mrt M ∧ meth.locks = false ∧ c.maxLocals = mL M ∧ s.vm.findClass (my M).cls = some m.cls ∧ meth.name = (my M).name ∧ (cS G).WarmedH s.vm ∧ cB G ≤ s.heap.size ∧ Out G s.heap ∧ ∀ hh, mhh M = some hh → c.exceptionTable.toList = tableOf hh
section CXs
variable {G : Ctx} {M : Mth} {p : Program} {s : State} {m : MethodId} {meth : Method} {c : Code}
theorem Cx.ok (C : Cx G M p s m meth c) : OKc G := C.1
theorem Cx.exec (C : Cx G M p s m meth c) : p.tables.exec = Jvm.exec := C.2.1
theorem Cx.code (C : Cx G M p s m meth c) : c.code = mcd M := C.2.2.1
theorem Cx.ret (C : Cx G M p s m meth c) : meth.sig.returnType = mrt M := C.2.2.2.1
theorem Cx.locks (C : Cx G M p s m meth c) : meth.locks = false := C.2.2.2.2.1
theorem Cx.maxL (C : Cx G M p s m meth c) : c.maxLocals = mL M := C.2.2.2.2.2.1
theorem Cx.own (C : Cx G M p s m meth c) : s.vm.findClass (my M).cls = some m.cls := C.2.2.2.2.2.2.1
theorem Cx.name (C : Cx G M p s m meth c) : meth.name = (my M).name := C.2.2.2.2.2.2.2.1
theorem Cx.warm (C : Cx G M p s m meth c) : (cS G).WarmedH s.vm := C.2.2.2.2.2.2.2.2.1
theorem Cx.big (C : Cx G M p s m meth c) : cB G ≤ s.heap.size := C.2.2.2.2.2.2.2.2.2.1
theorem Cx.out (C : Cx G M p s m meth c) : Out G s.heap := C.2.2.2.2.2.2.2.2.2.2.1
theorem Cx.tab (C : Cx G M p s m meth c) : ∀ hh, mhh M = some hh → c.exceptionTable.toList = tableOf hh := C.2.2.2.2.2.2.2.2.2.2.2
theorem Cx.wd (C : Cx G M p s m meth c) {args : Array Value} {w : Cond} (hm : w ∈ lw_tbl) (hg : goodWord w = true) : w.before args s = true := word_at C.warm (good_of_word hg) (C.ok.1 w hm)
theorem Cx.K (C : Cx G M p s m meth c) : va_K (cD G) vwCl (tysL (cCA G)) s := va_K.moved C.warm.alike C.ok.2.1
end CXs
def Wq (G : Ctx) (M : Mth) (E : Ev) (bc bs pc : Nat) (lv : List (Option Value)) (ll : List (Nat × Int64)) (st : List Value) (Γ : List Sh) (σ : Mem) : Prop :=
  ∀ (p : Program) (e : Env) (s : State) (m : MethodId) (args : Array Value) (below : List Frame) (meth : Method) (c : Code), Cx G M p s m meth c → ∀ (H : Heap) (locs : List Loc) (cells slots : Nat) (ls : Array Slot), VH G Γ σ H → va_S (fre G) s.heap H locs → cells + bc ≤ eC E → slots + bs ≤ eM E → lvR ls (mL M) lv ll →
    W p (cL G) e (eR E) s m args below meth c H locs cells slots (eZ E below args s) (F0 m pc ls st)
section Lifts
variable {G : Ctx} {M : Mth} {E : Ev} {bc bs pc pc' pc2 : Nat} {lv lv' : List (Option Value)} {ll ll' : List (Nat × Int64)} {st st' st2 : List Value} {Γ : List Sh} {σ : Mem}
theorem Wq.lift (h : ∀ {p : Program} {e : Env} {R : Room} {s : State} {m : MethodId} {args : Array Value} {below : List Frame} {meth : Method} {c : Code} {H : Heap} {locs : List Loc} {cells slots : Nat} {Q : State → Prop} {ls : Array Slot}, p.tables.exec = Jvm.exec → c.code = mcd M → lvR ls (mL M) lv ll → W p (cL G) e R s m args below meth c H locs cells slots Q (F0 m pc' ls st') → W p (cL G) e R s m args below meth c H locs cells slots Q (F0 m pc ls st))
    (k : Wq G M E bc bs pc' lv ll st' Γ σ) : Wq G M E bc bs pc lv ll st Γ σ := fun p e s m args below meth c C H locs cells slots ls hV hS h1 h2 hl => h C.exec C.code hl (k p e s m args below meth c C H locs cells slots ls hV hS h1 h2 hl)
theorem Wq.lift2 {A B : Prop} (h : ∀ {p : Program} {e : Env} {R : Room} {s : State} {m : MethodId} {args : Array Value} {below : List Frame} {meth : Method} {c : Code} {H : Heap} {locs : List Loc} {cells slots : Nat} {Q : State → Prop} {ls : Array Slot}, p.tables.exec = Jvm.exec → c.code = mcd M → lvR ls (mL M) lv ll → (A → W p (cL G) e R s m args below meth c H locs cells slots Q (F0 m pc' ls st')) → (B → W p (cL G) e R s m args below meth c H locs cells slots Q (F0 m pc2 ls st2)) → W p (cL G) e R s m args below meth c H locs cells slots Q (F0 m pc ls st))
    (k1 : A → Wq G M E bc bs pc' lv ll st' Γ σ) (k2 : B → Wq G M E bc bs pc2 lv ll st2 Γ σ) : Wq G M E bc bs pc lv ll st Γ σ := fun p e s m args below meth c C H locs cells slots ls hV hS h1 h2 hl => h C.exec C.code hl (fun a => k1 a p e s m args below meth c C H locs cells slots ls hV hS h1 h2 hl) (fun b => k2 b p e s m args below meth c C H locs cells slots ls hV hS h1 h2 hl)
theorem Wq.liftL (h : ∀ {p : Program} {e : Env} {R : Room} {s : State} {m : MethodId} {args : Array Value} {below : List Frame} {meth : Method} {c : Code} {H : Heap} {locs : List Loc} {cells slots : Nat} {Q : State → Prop} {ls : Array Slot}, p.tables.exec = Jvm.exec → c.code = mcd M → lvR ls (mL M) lv ll → (∀ ls' : Array Slot, lvR ls' (mL M) lv' ll' → W p (cL G) e R s m args below meth c H locs cells slots Q (F0 m pc' ls' st')) → W p (cL G) e R s m args below meth c H locs cells slots Q (F0 m pc ls st))
    (k : Wq G M E bc bs pc' lv' ll' st' Γ σ) : Wq G M E bc bs pc lv ll st Γ σ := fun p e s m args below meth c C H locs cells slots ls hV hS h1 h2 hl => h C.exec C.code hl (fun ls' hl' => k p e s m args below meth c C H locs cells slots ls' hV hS h1 h2 hl')
/-- fewer known locals -/
theorem Wq.sub (hs : ∀ (i : Nat) (v : Value), lv'[i]? = some (some v) → lv[i]? = some (some v)) (hsl : ∀ q ∈ ll', q ∈ ll) (k : Wq G M E bc bs pc lv' ll' st Γ σ) : Wq G M E bc bs pc lv ll st Γ σ := fun p e s m args below meth c C H locs cells slots ls hV hS h1 h2 hl =>
  k p e s m args below meth c C H locs cells slots ls hV hS h1 h2 ⟨⟨hl.1.1, hl.1.2.1, fun q hq => by
    rcases List.mem_append.mp hq with h | h
    · exact hl.1.2.2 q (List.mem_append_left _ (asc_mem.mpr (hs _ _ (asc_mem.mp h))))
    · obtain ⟨q0, h0, e0⟩ := List.mem_map.mp h
      exact hl.1.2.2 q (List.mem_append_right _ (List.mem_map.mpr ⟨q0, hsl q0 h0, e0⟩))⟩, fun i v h => hl.2 i v (hs i v h)⟩
end Lifts
theorem x_iinc0 {p : Program} {l : Launch} {e : Env} {R : Room} {s : State} {m : MethodId} {args : Array Value} {below : List Frame} {meth : Method} {c : Code} {H : Heap} {locs : List Loc} {cells slots : Nat} {Q : State → Prop} {cc : ByteArray} {pc nL i : Nat} {ls : Array Slot} {st : List Value} {lv : List (Option Value)} {ll : List (Nat × Int64)} {n : Int} {x v : Int32} (hx : p.tables.exec = Jvm.exec) (hb : c.code = cc) (hd : decode cc pc = .ok (.iinc i n, 3)) (hl : lvR ls nL lv ll) (hv : lv[i]? = some (some (.int x))) (hn : x + Int32.ofInt n = v) (hi : i < nL)
    (kk : ∀ ls' : Array Slot, lv_has ls' nL ((i, Value.int v) :: (asc lv ++ lal ll).filter (fun q => !(q.1 == i) && !(q.1 + 1 == i && q.2.category == 2))) → W p l e R s m args below meth c H locs cells slots Q (F0 m (pc + 3) ls' st)) : W p l e R s m args below meth c H locs cells slots Q (F0 m pc ls st) := by
  obtain ⟨k, hk⟩ := List.getElem?_of_mem (List.mem_append_left (lal ll) (asc_mem.mpr hv))
  exact lv_iinc hx hb hd hl.1 hk hn hi rfl kk
end
section
theorem x_iconst {G : Ctx} {M : Mth} {E : Ev} {bc bs pc : Nat} {lv : List (Option Value)} {ll : List (Nat × Int64)} {st : List Value} {Γ : List Sh} {σ : Mem} {n : Int} {v : Int32} (hd : decode (mcd M) pc = .ok (.iconst n, 1)) (hv : Int32.ofInt n = v) (k : Wq G M E bc bs (pc + 1) lv ll (.int v :: st) Γ σ) : Wq G M E bc bs pc lv ll st Γ σ := Wq.lift (fun hx hb hl kk => lv_iconst hx hb hd hv kk) k
theorem x_bipush {G : Ctx} {M : Mth} {E : Ev} {bc bs pc : Nat} {lv : List (Option Value)} {ll : List (Nat × Int64)} {st : List Value} {Γ : List Sh} {σ : Mem} {n : Int} {v : Int32} (hd : decode (mcd M) pc = .ok (.bipush n, 2)) (hv : (Int8.ofInt n).toInt32 = v) (k : Wq G M E bc bs (pc + 2) lv ll (.int v :: st) Γ σ) : Wq G M E bc bs pc lv ll st Γ σ := Wq.lift (fun hx hb hl kk => lv_bipush hx hb hd hv kk) k
theorem x_sipush {G : Ctx} {M : Mth} {E : Ev} {bc bs pc : Nat} {lv : List (Option Value)} {ll : List (Nat × Int64)} {st : List Value} {Γ : List Sh} {σ : Mem} {n : Int} {v : Int32} (hd : decode (mcd M) pc = .ok (.sipush n, 3)) (hv : (Int16.ofInt n).toInt32 = v) (k : Wq G M E bc bs (pc + 3) lv ll (.int v :: st) Γ σ) : Wq G M E bc bs pc lv ll st Γ σ := Wq.lift (fun hx hb hl kk => lv_sipush hx hb hd hv kk) k
theorem x_lconst {G : Ctx} {M : Mth} {E : Ev} {bc bs pc : Nat} {lv : List (Option Value)} {ll : List (Nat × Int64)} {st : List Value} {Γ : List Sh} {σ : Mem} {n : Fin 2} {v : Int64} (hd : decode (mcd M) pc = .ok (.lconst n, 1)) (hv : Int64.ofNat (n : Nat) = v) (k : Wq G M E bc bs (pc + 1) lv ll (.long v :: st) Γ σ) : Wq G M E bc bs pc lv ll st Γ σ := Wq.lift (fun hx hb hl kk => lv_lconst hx hb hd hv kk) k
theorem x_null {G : Ctx} {M : Mth} {E : Ev} {bc bs pc : Nat} {lv : List (Option Value)} {ll : List (Nat × Int64)} {st : List Value} {Γ : List Sh} {σ : Mem} (hd : decode (mcd M) pc = .ok (.aconst_null, 1)) (k : Wq G M E bc bs (pc + 1) lv ll (.null :: st) Γ σ) : Wq G M E bc bs pc lv ll st Γ σ := Wq.lift (fun hx hb hl kk => lv_null hx hb hd kk) k
theorem x_iload_n {G : Ctx} {M : Mth} {E : Ev} {bc bs pc : Nat} {lv : List (Option Value)} {ll : List (Nat × Int64)} {st : List Value} {Γ : List Sh} {σ : Mem} {k4 : Fin 4} {i : Nat} {x : Int32} (hd : decode (mcd M) pc = .ok (.iload_n k4, 1)) (hi : (k4 : Nat) = i) (hv : lv[i]? = some (some (.int x))) (k : Wq G M E bc bs (pc + 1) lv ll (.int x :: st) Γ σ) : Wq G M E bc bs pc lv ll st Γ σ := Wq.lift (fun hx hb hl kk => lv_iload_n hx hb hd hi (hl.at hv) kk) k
theorem x_lload_n {G : Ctx} {M : Mth} {E : Ev} {bc bs pc : Nat} {lv : List (Option Value)} {ll : List (Nat × Int64)} {st : List Value} {Γ : List Sh} {σ : Mem} {k4 : Fin 4} {i : Nat} {x : Int64} (hd : decode (mcd M) pc = .ok (.lload_n k4, 1)) (hi : (k4 : Nat) = i) (hv : (i, x) ∈ ll) (k : Wq G M E bc bs (pc + 1) lv ll (.long x :: st) Γ σ) : Wq G M E bc bs pc lv ll st Γ σ := Wq.lift (fun hx hb hl kk => lv_lload_n hx hb hd hi (hl.atL hv) kk) k
theorem x_aload_n {G : Ctx} {M : Mth} {E : Ev} {bc bs pc : Nat} {lv : List (Option Value)} {ll : List (Nat × Int64)} {st : List Value} {Γ : List Sh} {σ : Mem} {k4 : Fin 4} {i : Nat} {x : Nat} (hd : decode (mcd M) pc = .ok (.aload_n k4, 1)) (hi : (k4 : Nat) = i) (hv : lv[i]? = some (some (rf G x))) (k : Wq G M E bc bs (pc + 1) lv ll (rf G x :: st) Γ σ) : Wq G M E bc bs pc lv ll st Γ σ := Wq.lift (fun hx hb hl kk => lv_aload_n hx hb hd hi (hl.at hv) kk) k
theorem x_aloadE_n {G : Ctx} {M : Mth} {E : Ev} {bc bs pc : Nat} {lv : List (Option Value)} {ll : List (Nat × Int64)} {st : List Value} {Γ : List Sh} {σ : Mem} {k4 : Fin 4} {i : Nat} {x : Nat} (hd : decode (mcd M) pc = .ok (.aload_n k4, 1)) (hi : (k4 : Nat) = i) (hv : lv[i]? = some (some (.ref x))) (k : Wq G M E bc bs (pc + 1) lv ll (.ref x :: st) Γ σ) : Wq G M E bc bs pc lv ll st Γ σ := Wq.lift (fun hx hb hl kk => lv_aload_n hx hb hd hi (hl.at hv) kk) k
theorem x_aloadN_n {G : Ctx} {M : Mth} {E : Ev} {bc bs pc : Nat} {lv : List (Option Value)} {ll : List (Nat × Int64)} {st : List Value} {Γ : List Sh} {σ : Mem} {k4 : Fin 4} {i : Nat} (hd : decode (mcd M) pc = .ok (.aload_n k4, 1)) (hi : (k4 : Nat) = i) (hv : lv[i]? = some (some .null)) (k : Wq G M E bc bs (pc + 1) lv ll (.null :: st) Γ σ) : Wq G M E bc bs pc lv ll st Γ σ := Wq.lift (fun hx hb hl kk => lv_aload_nN hx hb hd hi (hl.at hv) kk) k
theorem x_iload {G : Ctx} {M : Mth} {E : Ev} {bc bs pc : Nat} {lv : List (Option Value)} {ll : List (Nat × Int64)} {st : List Value} {Γ : List Sh} {σ : Mem} {i : Nat} {x : Int32} (hd : decode (mcd M) pc = .ok (.iload i, 2)) (hv : lv[i]? = some (some (.int x))) (k : Wq G M E bc bs (pc + 2) lv ll (.int x :: st) Γ σ) : Wq G M E bc bs pc lv ll st Γ σ := Wq.lift (fun hx hb hl kk => lv_iload hx hb hd (hl.at hv) kk) k
theorem x_lload {G : Ctx} {M : Mth} {E : Ev} {bc bs pc : Nat} {lv : List (Option Value)} {ll : List (Nat × Int64)} {st : List Value} {Γ : List Sh} {σ : Mem} {i : Nat} {x : Int64} (hd : decode (mcd M) pc = .ok (.lload i, 2)) (hv : (i, x) ∈ ll) (k : Wq G M E bc bs (pc + 2) lv ll (.long x :: st) Γ σ) : Wq G M E bc bs pc lv ll st Γ σ := Wq.lift (fun hx hb hl kk => lv_lload hx hb hd (hl.atL hv) kk) k
theorem x_aload {G : Ctx} {M : Mth} {E : Ev} {bc bs pc : Nat} {lv : List (Option Value)} {ll : List (Nat × Int64)} {st : List Value} {Γ : List Sh} {σ : Mem} {i : Nat} {x : Nat} (hd : decode (mcd M) pc = .ok (.aload i, 2)) (hv : lv[i]? = some (some (rf G x))) (k : Wq G M E bc bs (pc + 2) lv ll (rf G x :: st) Γ σ) : Wq G M E bc bs pc lv ll st Γ σ := Wq.lift (fun hx hb hl kk => lv_aload hx hb hd (hl.at hv) kk) k
theorem x_aloadE {G : Ctx} {M : Mth} {E : Ev} {bc bs pc : Nat} {lv : List (Option Value)} {ll : List (Nat × Int64)} {st : List Value} {Γ : List Sh} {σ : Mem} {i : Nat} {x : Nat} (hd : decode (mcd M) pc = .ok (.aload i, 2)) (hv : lv[i]? = some (some (.ref x))) (k : Wq G M E bc bs (pc + 2) lv ll (.ref x :: st) Γ σ) : Wq G M E bc bs pc lv ll st Γ σ := Wq.lift (fun hx hb hl kk => lv_aload hx hb hd (hl.at hv) kk) k
theorem x_aloadN {G : Ctx} {M : Mth} {E : Ev} {bc bs pc : Nat} {lv : List (Option Value)} {ll : List (Nat × Int64)} {st : List Value} {Γ : List Sh} {σ : Mem} {i : Nat} (hd : decode (mcd M) pc = .ok (.aload i, 2)) (hv : lv[i]? = some (some .null)) (k : Wq G M E bc bs (pc + 2) lv ll (.null :: st) Γ σ) : Wq G M E bc bs pc lv ll st Γ σ := Wq.lift (fun hx hb hl kk => lv_aloadN hx hb hd (hl.at hv) kk) k
theorem x_iadd {G : Ctx} {M : Mth} {E : Ev} {bc bs pc : Nat} {lv : List (Option Value)} {ll : List (Nat × Int64)} {st : List Value} {Γ : List Sh} {σ : Mem} {x y : Int32} (hd : decode (mcd M) pc = .ok (.iadd, 1)) (k : Wq G M E bc bs (pc + 1) lv ll (.int (x + y) :: st) Γ σ) : Wq G M E bc bs pc lv ll (.int y :: .int x :: st) Γ σ := Wq.lift (fun hx hb hl kk => lv_iadd hx hb hd kk) k
theorem x_isub {G : Ctx} {M : Mth} {E : Ev} {bc bs pc : Nat} {lv : List (Option Value)} {ll : List (Nat × Int64)} {st : List Value} {Γ : List Sh} {σ : Mem} {x y : Int32} (hd : decode (mcd M) pc = .ok (.isub, 1)) (k : Wq G M E bc bs (pc + 1) lv ll (.int (x - y) :: st) Γ σ) : Wq G M E bc bs pc lv ll (.int y :: .int x :: st) Γ σ := Wq.lift (fun hx hb hl kk => lv_isub hx hb hd kk) k
theorem x_imul {G : Ctx} {M : Mth} {E : Ev} {bc bs pc : Nat} {lv : List (Option Value)} {ll : List (Nat × Int64)} {st : List Value} {Γ : List Sh} {σ : Mem} {x y : Int32} (hd : decode (mcd M) pc = .ok (.imul, 1)) (k : Wq G M E bc bs (pc + 1) lv ll (.int (x * y) :: st) Γ σ) : Wq G M E bc bs pc lv ll (.int y :: .int x :: st) Γ σ := Wq.lift (fun hx hb hl kk => lv_imul hx hb hd kk) k
theorem x_iand {G : Ctx} {M : Mth} {E : Ev} {bc bs pc : Nat} {lv : List (Option Value)} {ll : List (Nat × Int64)} {st : List Value} {Γ : List Sh} {σ : Mem} {x y : Int32} (hd : decode (mcd M) pc = .ok (.iand, 1)) (k : Wq G M E bc bs (pc + 1) lv ll (.int (x &&& y) :: st) Γ σ) : Wq G M E bc bs pc lv ll (.int y :: .int x :: st) Γ σ := Wq.lift (fun hx hb hl kk => lv_iand hx hb hd kk) k
theorem x_ior {G : Ctx} {M : Mth} {E : Ev} {bc bs pc : Nat} {lv : List (Option Value)} {ll : List (Nat × Int64)} {st : List Value} {Γ : List Sh} {σ : Mem} {x y : Int32} (hd : decode (mcd M) pc = .ok (.ior, 1)) (k : Wq G M E bc bs (pc + 1) lv ll (.int (x ||| y) :: st) Γ σ) : Wq G M E bc bs pc lv ll (.int y :: .int x :: st) Γ σ := Wq.lift (fun hx hb hl kk => lv_ior hx hb hd kk) k
theorem x_ixor {G : Ctx} {M : Mth} {E : Ev} {bc bs pc : Nat} {lv : List (Option Value)} {ll : List (Nat × Int64)} {st : List Value} {Γ : List Sh} {σ : Mem} {x y : Int32} (hd : decode (mcd M) pc = .ok (.ixor, 1)) (k : Wq G M E bc bs (pc + 1) lv ll (.int (x ^^^ y) :: st) Γ σ) : Wq G M E bc bs pc lv ll (.int y :: .int x :: st) Γ σ := Wq.lift (fun hx hb hl kk => lv_ixor hx hb hd kk) k
theorem x_ladd {G : Ctx} {M : Mth} {E : Ev} {bc bs pc : Nat} {lv : List (Option Value)} {ll : List (Nat × Int64)} {st : List Value} {Γ : List Sh} {σ : Mem} {x y : Int64} (hd : decode (mcd M) pc = .ok (.ladd, 1)) (k : Wq G M E bc bs (pc + 1) lv ll (.long (x + y) :: st) Γ σ) : Wq G M E bc bs pc lv ll (.long y :: .long x :: st) Γ σ := Wq.lift (fun hx hb hl kk => lv_ladd hx hb hd kk) k
theorem x_lsub {G : Ctx} {M : Mth} {E : Ev} {bc bs pc : Nat} {lv : List (Option Value)} {ll : List (Nat × Int64)} {st : List Value} {Γ : List Sh} {σ : Mem} {x y : Int64} (hd : decode (mcd M) pc = .ok (.lsub, 1)) (k : Wq G M E bc bs (pc + 1) lv ll (.long (x - y) :: st) Γ σ) : Wq G M E bc bs pc lv ll (.long y :: .long x :: st) Γ σ := Wq.lift (fun hx hb hl kk => lv_lsub hx hb hd kk) k
theorem x_lmul {G : Ctx} {M : Mth} {E : Ev} {bc bs pc : Nat} {lv : List (Option Value)} {ll : List (Nat × Int64)} {st : List Value} {Γ : List Sh} {σ : Mem} {x y : Int64} (hd : decode (mcd M) pc = .ok (.lmul, 1)) (k : Wq G M E bc bs (pc + 1) lv ll (.long (x * y) :: st) Γ σ) : Wq G M E bc bs pc lv ll (.long y :: .long x :: st) Γ σ := Wq.lift (fun hx hb hl kk => lv_lmul hx hb hd kk) k
theorem x_land {G : Ctx} {M : Mth} {E : Ev} {bc bs pc : Nat} {lv : List (Option Value)} {ll : List (Nat × Int64)} {st : List Value} {Γ : List Sh} {σ : Mem} {x y : Int64} (hd : decode (mcd M) pc = .ok (.land, 1)) (k : Wq G M E bc bs (pc + 1) lv ll (.long (x &&& y) :: st) Γ σ) : Wq G M E bc bs pc lv ll (.long y :: .long x :: st) Γ σ := Wq.lift (fun hx hb hl kk => lv_land hx hb hd kk) k
theorem x_lor {G : Ctx} {M : Mth} {E : Ev} {bc bs pc : Nat} {lv : List (Option Value)} {ll : List (Nat × Int64)} {st : List Value} {Γ : List Sh} {σ : Mem} {x y : Int64} (hd : decode (mcd M) pc = .ok (.lor, 1)) (k : Wq G M E bc bs (pc + 1) lv ll (.long (x ||| y) :: st) Γ σ) : Wq G M E bc bs pc lv ll (.long y :: .long x :: st) Γ σ := Wq.lift (fun hx hb hl kk => lv_lor hx hb hd kk) k
theorem x_lxor {G : Ctx} {M : Mth} {E : Ev} {bc bs pc : Nat} {lv : List (Option Value)} {ll : List (Nat × Int64)} {st : List Value} {Γ : List Sh} {σ : Mem} {x y : Int64} (hd : decode (mcd M) pc = .ok (.lxor, 1)) (k : Wq G M E bc bs (pc + 1) lv ll (.long (x ^^^ y) :: st) Γ σ) : Wq G M E bc bs pc lv ll (.long y :: .long x :: st) Γ σ := Wq.lift (fun hx hb hl kk => lv_lxor hx hb hd kk) k
theorem x_ineg {G : Ctx} {M : Mth} {E : Ev} {bc bs pc : Nat} {lv : List (Option Value)} {ll : List (Nat × Int64)} {st : List Value} {Γ : List Sh} {σ : Mem} {x : Int32} (hd : decode (mcd M) pc = .ok (.ineg, 1)) (k : Wq G M E bc bs (pc + 1) lv ll (.int (-x) :: st) Γ σ) : Wq G M E bc bs pc lv ll (.int x :: st) Γ σ := Wq.lift (fun hx hb hl kk => lv_ineg hx hb hd kk) k
theorem x_ishl {G : Ctx} {M : Mth} {E : Ev} {bc bs pc : Nat} {lv : List (Option Value)} {ll : List (Nat × Int64)} {st : List Value} {Γ : List Sh} {σ : Mem} {x y : Int32} (hd : decode (mcd M) pc = .ok (.ishl, 1)) (k : Wq G M E bc bs (pc + 1) lv ll (.int (x <<< (y &&& 31)) :: st) Γ σ) : Wq G M E bc bs pc lv ll (.int y :: .int x :: st) Γ σ := Wq.lift (fun hx hb hl kk => lv_ishl hx hb hd kk) k
theorem x_ishr {G : Ctx} {M : Mth} {E : Ev} {bc bs pc : Nat} {lv : List (Option Value)} {ll : List (Nat × Int64)} {st : List Value} {Γ : List Sh} {σ : Mem} {x y : Int32} (hd : decode (mcd M) pc = .ok (.ishr, 1)) (k : Wq G M E bc bs (pc + 1) lv ll (.int (x >>> (y &&& 31)) :: st) Γ σ) : Wq G M E bc bs pc lv ll (.int y :: .int x :: st) Γ σ := Wq.lift (fun hx hb hl kk => lv_ishr hx hb hd kk) k
theorem x_iushr {G : Ctx} {M : Mth} {E : Ev} {bc bs pc : Nat} {lv : List (Option Value)} {ll : List (Nat × Int64)} {st : List Value} {Γ : List Sh} {σ : Mem} {x y : Int32} (hd : decode (mcd M) pc = .ok (.iushr, 1)) (k : Wq G M E bc bs (pc + 1) lv ll (.int ((x.toUInt32 >>> (y.toUInt32 &&& Int32.toUInt32 31)).toInt32) :: st) Γ σ) : Wq G M E bc bs pc lv ll (.int y :: .int x :: st) Γ σ := Wq.lift (fun hx hb hl kk => lv_iushr hx hb hd rfl kk) k
theorem x_lushr {G : Ctx} {M : Mth} {E : Ev} {bc bs pc : Nat} {lv : List (Option Value)} {ll : List (Nat × Int64)} {st : List Value} {Γ : List Sh} {σ : Mem} {x : Int64} {y : Int32} (hd : decode (mcd M) pc = .ok (.lushr, 1)) (k : Wq G M E bc bs (pc + 1) lv ll (.long ((x.toUInt64 >>> (y.toInt64.toUInt64 &&& Int64.toUInt64 63)).toInt64) :: st) Γ σ) : Wq G M E bc bs pc lv ll (.int y :: .long x :: st) Γ σ := Wq.lift (fun hx hb hl kk => lv_lushr hx hb hd rfl kk) k
theorem x_lshl {G : Ctx} {M : Mth} {E : Ev} {bc bs pc : Nat} {lv : List (Option Value)} {ll : List (Nat × Int64)} {st : List Value} {Γ : List Sh} {σ : Mem} {x : Int64} {y : Int32} (hd : decode (mcd M) pc = .ok (.lshl, 1)) (k : Wq G M E bc bs (pc + 1) lv ll (.long (x <<< (y.toInt64 &&& 63)) :: st) Γ σ) : Wq G M E bc bs pc lv ll (.int y :: .long x :: st) Γ σ := Wq.lift (fun hx hb hl kk => lv_lshl hx hb hd rfl kk) k
theorem x_lshr {G : Ctx} {M : Mth} {E : Ev} {bc bs pc : Nat} {lv : List (Option Value)} {ll : List (Nat × Int64)} {st : List Value} {Γ : List Sh} {σ : Mem} {x : Int64} {y : Int32} (hd : decode (mcd M) pc = .ok (.lshr, 1)) (k : Wq G M E bc bs (pc + 1) lv ll (.long (x >>> (y.toInt64 &&& 63)) :: st) Γ σ) : Wq G M E bc bs pc lv ll (.int y :: .long x :: st) Γ σ := Wq.lift (fun hx hb hl kk => lv_lshr hx hb hd rfl kk) k
theorem x_i2l {G : Ctx} {M : Mth} {E : Ev} {bc bs pc : Nat} {lv : List (Option Value)} {ll : List (Nat × Int64)} {st : List Value} {Γ : List Sh} {σ : Mem} {x : Int32} (hd : decode (mcd M) pc = .ok (.i2l, 1)) (k : Wq G M E bc bs (pc + 1) lv ll (.long x.toInt64 :: st) Γ σ) : Wq G M E bc bs pc lv ll (.int x :: st) Γ σ := Wq.lift (fun hx hb hl kk => lv_i2l hx hb hd rfl kk) k
theorem x_l2i {G : Ctx} {M : Mth} {E : Ev} {bc bs pc : Nat} {lv : List (Option Value)} {ll : List (Nat × Int64)} {st : List Value} {Γ : List Sh} {σ : Mem} {x : Int64} (hd : decode (mcd M) pc = .ok (.l2i, 1)) (k : Wq G M E bc bs (pc + 1) lv ll (.int x.toInt32 :: st) Γ σ) : Wq G M E bc bs pc lv ll (.long x :: st) Γ σ := Wq.lift (fun hx hb hl kk => lv_l2i hx hb hd rfl kk) k
theorem x_i2b {G : Ctx} {M : Mth} {E : Ev} {bc bs pc : Nat} {lv : List (Option Value)} {ll : List (Nat × Int64)} {st : List Value} {Γ : List Sh} {σ : Mem} {x : Int32} (hd : decode (mcd M) pc = .ok (.i2b, 1)) (k : Wq G M E bc bs (pc + 1) lv ll (.int x.toInt8.toInt32 :: st) Γ σ) : Wq G M E bc bs pc lv ll (.int x :: st) Γ σ := Wq.lift (fun hx hb hl kk => lv_i2b hx hb hd rfl kk) k
theorem x_i2c {G : Ctx} {M : Mth} {E : Ev} {bc bs pc : Nat} {lv : List (Option Value)} {ll : List (Nat × Int64)} {st : List Value} {Γ : List Sh} {σ : Mem} {x : Int32} (hd : decode (mcd M) pc = .ok (.i2c, 1)) (k : Wq G M E bc bs (pc + 1) lv ll (.int (x.toUInt32 % 65536).toInt32 :: st) Γ σ) : Wq G M E bc bs pc lv ll (.int x :: st) Γ σ := Wq.lift (fun hx hb hl kk => lv_i2c hx hb hd rfl kk) k
theorem x_dup {G : Ctx} {M : Mth} {E : Ev} {bc bs pc : Nat} {lv : List (Option Value)} {ll : List (Nat × Int64)} {st : List Value} {Γ : List Sh} {σ : Mem} {va : Value} (hd : decode (mcd M) pc = .ok (.dup, 1)) (hva : va.category = 1) (k : Wq G M E bc bs (pc + 1) lv ll (va :: va :: st) Γ σ) : Wq G M E bc bs pc lv ll (va :: st) Γ σ := Wq.lift (fun hx hb hl kk => lv_dup hx hb hd hva kk) k
theorem x_pop {G : Ctx} {M : Mth} {E : Ev} {bc bs pc : Nat} {lv : List (Option Value)} {ll : List (Nat × Int64)} {st : List Value} {Γ : List Sh} {σ : Mem} {va : Value} (hd : decode (mcd M) pc = .ok (.pop, 1)) (hva : va.category = 1) (k : Wq G M E bc bs (pc + 1) lv ll st Γ σ) : Wq G M E bc bs pc lv ll (va :: st) Γ σ := Wq.lift (fun hx hb hl kk => lv_pop hx hb hd hva kk) k
theorem x_dup_x1 {G : Ctx} {M : Mth} {E : Ev} {bc bs pc : Nat} {lv : List (Option Value)} {ll : List (Nat × Int64)} {st : List Value} {Γ : List Sh} {σ : Mem} {va vb : Value} (hd : decode (mcd M) pc = .ok (.dup_x1, 1)) (hva : va.category = 1) (hvb : vb.category = 1) (k : Wq G M E bc bs (pc + 1) lv ll (va :: vb :: va :: st) Γ σ) : Wq G M E bc bs pc lv ll (va :: vb :: st) Γ σ := Wq.lift (fun hx hb hl kk => lv_dup_x1 hx hb hd hva hvb kk) k
theorem x_dup_x2 {G : Ctx} {M : Mth} {E : Ev} {bc bs pc : Nat} {lv : List (Option Value)} {ll : List (Nat × Int64)} {st : List Value} {Γ : List Sh} {σ : Mem} {va vb vd : Value} (hd : decode (mcd M) pc = .ok (.dup_x2, 1)) (hva : va.category = 1) (hvb : vb.category = 1) (hvd : vd.category = 1) (k : Wq G M E bc bs (pc + 1) lv ll (va :: vb :: vd :: va :: st) Γ σ) : Wq G M E bc bs pc lv ll (va :: vb :: vd :: st) Γ σ := Wq.lift (fun hx hb hl kk => lv_dup_x2 hx hb hd hva hvb hvd kk) k
theorem x_dup2 {G : Ctx} {M : Mth} {E : Ev} {bc bs pc : Nat} {lv : List (Option Value)} {ll : List (Nat × Int64)} {st : List Value} {Γ : List Sh} {σ : Mem} {va vb : Value} (hd : decode (mcd M) pc = .ok (.dup2, 1)) (hva : va.category = 1) (hvb : vb.category = 1) (k : Wq G M E bc bs (pc + 1) lv ll (va :: vb :: va :: vb :: st) Γ σ) : Wq G M E bc bs pc lv ll (va :: vb :: st) Γ σ := Wq.lift (fun hx hb hl kk => lv_dup2_11 hx hb hd hva hvb kk) k
theorem x_dup2L {G : Ctx} {M : Mth} {E : Ev} {bc bs pc : Nat} {lv : List (Option Value)} {ll : List (Nat × Int64)} {st : List Value} {Γ : List Sh} {σ : Mem} {va : Value} (hd : decode (mcd M) pc = .ok (.dup2, 1)) (hva : va.category = 2) (k : Wq G M E bc bs (pc + 1) lv ll (va :: va :: st) Γ σ) : Wq G M E bc bs pc lv ll (va :: st) Γ σ := Wq.lift (fun hx hb hl kk => lv_dup2_2 hx hb hd hva kk) k
theorem x_pop2L {G : Ctx} {M : Mth} {E : Ev} {bc bs pc : Nat} {lv : List (Option Value)} {ll : List (Nat × Int64)} {st : List Value} {Γ : List Sh} {σ : Mem} {va : Value} (hd : decode (mcd M) pc = .ok (.pop2, 1)) (hva : va.category = 2) (k : Wq G M E bc bs (pc + 1) lv ll st Γ σ) : Wq G M E bc bs pc lv ll (va :: st) Γ σ := Wq.lift (fun hx hb hl kk => lv_pop2_2 hx hb hd hva kk) k
theorem x_if_eq {G : Ctx} {M : Mth} {E : Ev} {bc bs pc : Nat} {lv : List (Option Value)} {ll : List (Nat × Int64)} {st : List Value} {Γ : List Sh} {σ : Mem} {x : Int32} {off : Int} {tgt : Nat} (hd : decode (mcd M) pc = .ok (.ifCond .eq off, 3)) (ht : (pc : Int) + off = (tgt : Int)) (kt : x = 0 → Wq G M E bc bs tgt lv ll st Γ σ) (kf : ¬ (x = 0) → Wq G M E bc bs (pc + 3) lv ll st Γ σ) : Wq G M E bc bs pc lv ll (.int x :: st) Γ σ := Wq.lift2 (fun hx hb _ k1 k2 => lv_if_eq hx hb hd ht k1 k2) kt kf
theorem x_icmp_eq {G : Ctx} {M : Mth} {E : Ev} {bc bs pc : Nat} {lv : List (Option Value)} {ll : List (Nat × Int64)} {st : List Value} {Γ : List Sh} {σ : Mem} {x y : Int32} {off : Int} {tgt : Nat} (hd : decode (mcd M) pc = .ok (.if_icmp .eq off, 3)) (ht : (pc : Int) + off = (tgt : Int)) (kt : x = y → Wq G M E bc bs tgt lv ll st Γ σ) (kf : ¬ (x = y) → Wq G M E bc bs (pc + 3) lv ll st Γ σ) : Wq G M E bc bs pc lv ll (.int y :: .int x :: st) Γ σ := Wq.lift2 (fun hx hb _ k1 k2 => lv_icmp_eq hx hb hd ht k1 k2) kt kf
theorem x_if_ne {G : Ctx} {M : Mth} {E : Ev} {bc bs pc : Nat} {lv : List (Option Value)} {ll : List (Nat × Int64)} {st : List Value} {Γ : List Sh} {σ : Mem} {x : Int32} {off : Int} {tgt : Nat} (hd : decode (mcd M) pc = .ok (.ifCond .ne off, 3)) (ht : (pc : Int) + off = (tgt : Int)) (kt : ¬ x = 0 → Wq G M E bc bs tgt lv ll st Γ σ) (kf : x = 0 → Wq G M E bc bs (pc + 3) lv ll st Γ σ) : Wq G M E bc bs pc lv ll (.int x :: st) Γ σ := Wq.lift2 (fun hx hb _ k1 k2 => lv_if_ne hx hb hd ht k1 k2) kt kf
theorem x_icmp_ne {G : Ctx} {M : Mth} {E : Ev} {bc bs pc : Nat} {lv : List (Option Value)} {ll : List (Nat × Int64)} {st : List Value} {Γ : List Sh} {σ : Mem} {x y : Int32} {off : Int} {tgt : Nat} (hd : decode (mcd M) pc = .ok (.if_icmp .ne off, 3)) (ht : (pc : Int) + off = (tgt : Int)) (kt : ¬ x = y → Wq G M E bc bs tgt lv ll st Γ σ) (kf : x = y → Wq G M E bc bs (pc + 3) lv ll st Γ σ) : Wq G M E bc bs pc lv ll (.int y :: .int x :: st) Γ σ := Wq.lift2 (fun hx hb _ k1 k2 => lv_icmp_ne hx hb hd ht k1 k2) kt kf
theorem x_if_lt {G : Ctx} {M : Mth} {E : Ev} {bc bs pc : Nat} {lv : List (Option Value)} {ll : List (Nat × Int64)} {st : List Value} {Γ : List Sh} {σ : Mem} {x : Int32} {off : Int} {tgt : Nat} (hd : decode (mcd M) pc = .ok (.ifCond .lt off, 3)) (ht : (pc : Int) + off = (tgt : Int)) (kt : x < 0 → Wq G M E bc bs tgt lv ll st Γ σ) (kf : ¬ (x < 0) → Wq G M E bc bs (pc + 3) lv ll st Γ σ) : Wq G M E bc bs pc lv ll (.int x :: st) Γ σ := Wq.lift2 (fun hx hb _ k1 k2 => lv_if_lt hx hb hd ht k1 k2) kt kf
theorem x_icmp_lt {G : Ctx} {M : Mth} {E : Ev} {bc bs pc : Nat} {lv : List (Option Value)} {ll : List (Nat × Int64)} {st : List Value} {Γ : List Sh} {σ : Mem} {x y : Int32} {off : Int} {tgt : Nat} (hd : decode (mcd M) pc = .ok (.if_icmp .lt off, 3)) (ht : (pc : Int) + off = (tgt : Int)) (kt : x < y → Wq G M E bc bs tgt lv ll st Γ σ) (kf : ¬ (x < y) → Wq G M E bc bs (pc + 3) lv ll st Γ σ) : Wq G M E bc bs pc lv ll (.int y :: .int x :: st) Γ σ := Wq.lift2 (fun hx hb _ k1 k2 => lv_icmp_lt hx hb hd ht k1 k2) kt kf
theorem x_if_ge {G : Ctx} {M : Mth} {E : Ev} {bc bs pc : Nat} {lv : List (Option Value)} {ll : List (Nat × Int64)} {st : List Value} {Γ : List Sh} {σ : Mem} {x : Int32} {off : Int} {tgt : Nat} (hd : decode (mcd M) pc = .ok (.ifCond .ge off, 3)) (ht : (pc : Int) + off = (tgt : Int)) (kt : 0 ≤ x → Wq G M E bc bs tgt lv ll st Γ σ) (kf : ¬ (0 ≤ x) → Wq G M E bc bs (pc + 3) lv ll st Γ σ) : Wq G M E bc bs pc lv ll (.int x :: st) Γ σ := Wq.lift2 (fun hx hb _ k1 k2 => lv_if_ge hx hb hd ht k1 k2) kt kf
theorem x_icmp_ge {G : Ctx} {M : Mth} {E : Ev} {bc bs pc : Nat} {lv : List (Option Value)} {ll : List (Nat × Int64)} {st : List Value} {Γ : List Sh} {σ : Mem} {x y : Int32} {off : Int} {tgt : Nat} (hd : decode (mcd M) pc = .ok (.if_icmp .ge off, 3)) (ht : (pc : Int) + off = (tgt : Int)) (kt : y ≤ x → Wq G M E bc bs tgt lv ll st Γ σ) (kf : ¬ (y ≤ x) → Wq G M E bc bs (pc + 3) lv ll st Γ σ) : Wq G M E bc bs pc lv ll (.int y :: .int x :: st) Γ σ := Wq.lift2 (fun hx hb _ k1 k2 => lv_icmp_ge hx hb hd ht k1 k2) kt kf
theorem x_if_gt {G : Ctx} {M : Mth} {E : Ev} {bc bs pc : Nat} {lv : List (Option Value)} {ll : List (Nat × Int64)} {st : List Value} {Γ : List Sh} {σ : Mem} {x : Int32} {off : Int} {tgt : Nat} (hd : decode (mcd M) pc = .ok (.ifCond .gt off, 3)) (ht : (pc : Int) + off = (tgt : Int)) (kt : 0 < x → Wq G M E bc bs tgt lv ll st Γ σ) (kf : ¬ (0 < x) → Wq G M E bc bs (pc + 3) lv ll st Γ σ) : Wq G M E bc bs pc lv ll (.int x :: st) Γ σ := Wq.lift2 (fun hx hb _ k1 k2 => lv_if_gt hx hb hd ht k1 k2) kt kf
theorem x_icmp_gt {G : Ctx} {M : Mth} {E : Ev} {bc bs pc : Nat} {lv : List (Option Value)} {ll : List (Nat × Int64)} {st : List Value} {Γ : List Sh} {σ : Mem} {x y : Int32} {off : Int} {tgt : Nat} (hd : decode (mcd M) pc = .ok (.if_icmp .gt off, 3)) (ht : (pc : Int) + off = (tgt : Int)) (kt : y < x → Wq G M E bc bs tgt lv ll st Γ σ) (kf : ¬ (y < x) → Wq G M E bc bs (pc + 3) lv ll st Γ σ) : Wq G M E bc bs pc lv ll (.int y :: .int x :: st) Γ σ := Wq.lift2 (fun hx hb _ k1 k2 => lv_icmp_gt hx hb hd ht k1 k2) kt kf
theorem x_if_le {G : Ctx} {M : Mth} {E : Ev} {bc bs pc : Nat} {lv : List (Option Value)} {ll : List (Nat × Int64)} {st : List Value} {Γ : List Sh} {σ : Mem} {x : Int32} {off : Int} {tgt : Nat} (hd : decode (mcd M) pc = .ok (.ifCond .le off, 3)) (ht : (pc : Int) + off = (tgt : Int)) (kt : x ≤ 0 → Wq G M E bc bs tgt lv ll st Γ σ) (kf : ¬ (x ≤ 0) → Wq G M E bc bs (pc + 3) lv ll st Γ σ) : Wq G M E bc bs pc lv ll (.int x :: st) Γ σ := Wq.lift2 (fun hx hb _ k1 k2 => lv_if_le hx hb hd ht k1 k2) kt kf
theorem x_icmp_le {G : Ctx} {M : Mth} {E : Ev} {bc bs pc : Nat} {lv : List (Option Value)} {ll : List (Nat × Int64)} {st : List Value} {Γ : List Sh} {σ : Mem} {x y : Int32} {off : Int} {tgt : Nat} (hd : decode (mcd M) pc = .ok (.if_icmp .le off, 3)) (ht : (pc : Int) + off = (tgt : Int)) (kt : x ≤ y → Wq G M E bc bs tgt lv ll st Γ σ) (kf : ¬ (x ≤ y) → Wq G M E bc bs (pc + 3) lv ll st Γ σ) : Wq G M E bc bs pc lv ll (.int y :: .int x :: st) Γ σ := Wq.lift2 (fun hx hb _ k1 k2 => lv_icmp_le hx hb hd ht k1 k2) kt kf
theorem x_goto {G : Ctx} {M : Mth} {E : Ev} {bc bs pc : Nat} {lv : List (Option Value)} {ll : List (Nat × Int64)} {st : List Value} {Γ : List Sh} {σ : Mem} {off : Int} {tgt : Nat} (hd : decode (mcd M) pc = .ok (.goto off, 3)) (ht : (pc : Int) + off = (tgt : Int)) (k : Wq G M E bc bs tgt lv ll st Γ σ) : Wq G M E bc bs pc lv ll st Γ σ := Wq.lift (fun hx hb _ kk => lv_goto hx hb hd ht kk) k
theorem x_ifnonnull {G : Ctx} {M : Mth} {E : Ev} {bc bs pc : Nat} {lv : List (Option Value)} {ll : List (Nat × Int64)} {st : List Value} {Γ : List Sh} {σ : Mem} {x : Nat} {off : Int} {tgt : Nat} (hd : decode (mcd M) pc = .ok (.ifnonnull off, 3)) (ht : (pc : Int) + off = (tgt : Int)) (k : Wq G M E bc bs tgt lv ll st Γ σ) : Wq G M E bc bs pc lv ll (rf G x :: st) Γ σ := Wq.lift (fun hx hb _ kk => lv_ifnonnull hx hb hd ht kk) k
theorem x_ifnonnullN {G : Ctx} {M : Mth} {E : Ev} {bc bs pc : Nat} {lv : List (Option Value)} {ll : List (Nat × Int64)} {st : List Value} {Γ : List Sh} {σ : Mem} {off : Int} (hd : decode (mcd M) pc = .ok (.ifnonnull off, 3)) (k : Wq G M E bc bs (pc + 3) lv ll st Γ σ) : Wq G M E bc bs pc lv ll (.null :: st) Γ σ := Wq.lift (fun hx hb _ kk => lv_ifnonnullN hx hb hd kk) k
theorem x_ifnull {G : Ctx} {M : Mth} {E : Ev} {bc bs pc : Nat} {lv : List (Option Value)} {ll : List (Nat × Int64)} {st : List Value} {Γ : List Sh} {σ : Mem} {x : Nat} {off : Int} (hd : decode (mcd M) pc = .ok (.ifnull off, 3)) (k : Wq G M E bc bs (pc + 3) lv ll st Γ σ) : Wq G M E bc bs pc lv ll (rf G x :: st) Γ σ := Wq.lift (fun hx hb _ kk => lv_ifnull hx hb hd kk) k
theorem x_ifnullN {G : Ctx} {M : Mth} {E : Ev} {bc bs pc : Nat} {lv : List (Option Value)} {ll : List (Nat × Int64)} {st : List Value} {Γ : List Sh} {σ : Mem} {off : Int} {tgt : Nat} (hd : decode (mcd M) pc = .ok (.ifnull off, 3)) (ht : (pc : Int) + off = (tgt : Int)) (k : Wq G M E bc bs tgt lv ll st Γ σ) : Wq G M E bc bs pc lv ll (.null :: st) Γ σ := Wq.lift (fun hx hb _ kk => lv_ifnullN hx hb hd ht kk) k
theorem x_istore_n {G : Ctx} {M : Mth} {E : Ev} {bc bs pc : Nat} {lv : List (Option Value)} {ll : List (Nat × Int64)} {st : List Value} {Γ : List Sh} {σ : Mem} {k4 : Fin 4} {i : Nat} {x : Int32} (hd : decode (mcd M) pc = .ok (.istore_n k4, 1)) (hi : (k4 : Nat) = i) (hb4 : (decide (i < mL M) && ll.all (fun q => !(q.1 == i) && !(q.1 + 1 == i))) = true) (k : Wq G M E bc bs (pc + 1) (lv.set i (some (.int x))) ll st Γ σ) : Wq G M E bc bs pc lv ll (.int x :: st) Γ σ := Wq.liftL (fun hx hb hl kk => lv_istore_n hx hb hd hi hl.1 (of_decide_eq_true (Bool.and_eq_true_iff.mp hb4).1) rfl (fun ls' h' => kk ls' (lvR.put hl.2 rfl (Bool.and_eq_true_iff.mp hb4).2 h'))) k
theorem x_astore_n {G : Ctx} {M : Mth} {E : Ev} {bc bs pc : Nat} {lv : List (Option Value)} {ll : List (Nat × Int64)} {st : List Value} {Γ : List Sh} {σ : Mem} {k4 : Fin 4} {i : Nat} {x : Nat} (hd : decode (mcd M) pc = .ok (.astore_n k4, 1)) (hi : (k4 : Nat) = i) (hb4 : (decide (i < mL M) && ll.all (fun q => !(q.1 == i) && !(q.1 + 1 == i))) = true) (k : Wq G M E bc bs (pc + 1) (lv.set i (some (rf G x))) ll st Γ σ) : Wq G M E bc bs pc lv ll (rf G x :: st) Γ σ := Wq.liftL (fun hx hb hl kk => lv_astore_n hx hb hd hi hl.1 (of_decide_eq_true (Bool.and_eq_true_iff.mp hb4).1) rfl (fun ls' h' => kk ls' (lvR.put hl.2 rfl (Bool.and_eq_true_iff.mp hb4).2 h'))) k
theorem x_astoreE_n {G : Ctx} {M : Mth} {E : Ev} {bc bs pc : Nat} {lv : List (Option Value)} {ll : List (Nat × Int64)} {st : List Value} {Γ : List Sh} {σ : Mem} {k4 : Fin 4} {i : Nat} {x : Nat} (hd : decode (mcd M) pc = .ok (.astore_n k4, 1)) (hi : (k4 : Nat) = i) (hb4 : (decide (i < mL M) && ll.all (fun q => !(q.1 == i) && !(q.1 + 1 == i))) = true) (k : Wq G M E bc bs (pc + 1) (lv.set i (some (.ref x))) ll st Γ σ) : Wq G M E bc bs pc lv ll (.ref x :: st) Γ σ := Wq.liftL (fun hx hb hl kk => lv_astore_n hx hb hd hi hl.1 (of_decide_eq_true (Bool.and_eq_true_iff.mp hb4).1) rfl (fun ls' h' => kk ls' (lvR.put hl.2 rfl (Bool.and_eq_true_iff.mp hb4).2 h'))) k
theorem x_astoreN_n {G : Ctx} {M : Mth} {E : Ev} {bc bs pc : Nat} {lv : List (Option Value)} {ll : List (Nat × Int64)} {st : List Value} {Γ : List Sh} {σ : Mem} {k4 : Fin 4} {i : Nat} (hd : decode (mcd M) pc = .ok (.astore_n k4, 1)) (hi : (k4 : Nat) = i) (hb4 : (decide (i < mL M) && ll.all (fun q => !(q.1 == i) && !(q.1 + 1 == i))) = true) (k : Wq G M E bc bs (pc + 1) (lv.set i (some (.null))) ll st Γ σ) : Wq G M E bc bs pc lv ll (.null :: st) Γ σ := Wq.liftL (fun hx hb hl kk => lv_astore_nN hx hb hd hi hl.1 (of_decide_eq_true (Bool.and_eq_true_iff.mp hb4).1) rfl (fun ls' h' => kk ls' (lvR.put hl.2 rfl (Bool.and_eq_true_iff.mp hb4).2 h'))) k
theorem x_lstore_n {G : Ctx} {M : Mth} {E : Ev} {bc bs pc : Nat} {lv : List (Option Value)} {ll : List (Nat × Int64)} {st : List Value} {Γ : List Sh} {σ : Mem} {k4 : Fin 4} {i : Nat} {x : Int64} (hd : decode (mcd M) pc = .ok (.lstore_n k4, 1)) (hi : (k4 : Nat) = i) (hb4 : (decide (i + 1 < mL M) && ll.all (fun q => (q.1 == i) || (!(q.1 == i + 1) && !(q.1 + 1 == i)))) = true) (k : Wq G M E bc bs (pc + 1) ((lv.set i none).set (i + 1) none) ((i, x) :: ll.filter (fun q => !(q.1 == i))) st Γ σ) : Wq G M E bc bs pc lv ll (.long x :: st) Γ σ := Wq.liftL (fun hx hb hl kk => lv_lstore_n hx hb hd hi hl.1 (of_decide_eq_true (Bool.and_eq_true_iff.mp hb4).1) rfl (fun ls' h' => kk ls' (lvR.putL hl.2 (Bool.and_eq_true_iff.mp hb4).2 h'))) k
theorem x_istore {G : Ctx} {M : Mth} {E : Ev} {bc bs pc : Nat} {lv : List (Option Value)} {ll : List (Nat × Int64)} {st : List Value} {Γ : List Sh} {σ : Mem} {i : Nat} {x : Int32} (hd : decode (mcd M) pc = .ok (.istore i, 2)) (hb4 : (decide (i < mL M) && ll.all (fun q => !(q.1 == i) && !(q.1 + 1 == i))) = true) (k : Wq G M E bc bs (pc + 2) (lv.set i (some (.int x))) ll st Γ σ) : Wq G M E bc bs pc lv ll (.int x :: st) Γ σ := Wq.liftL (fun hx hb hl kk => lv_istore hx hb hd hl.1 (of_decide_eq_true (Bool.and_eq_true_iff.mp hb4).1) rfl (fun ls' h' => kk ls' (lvR.put hl.2 rfl (Bool.and_eq_true_iff.mp hb4).2 h'))) k
theorem x_astore {G : Ctx} {M : Mth} {E : Ev} {bc bs pc : Nat} {lv : List (Option Value)} {ll : List (Nat × Int64)} {st : List Value} {Γ : List Sh} {σ : Mem} {i : Nat} {x : Nat} (hd : decode (mcd M) pc = .ok (.astore i, 2)) (hb4 : (decide (i < mL M) && ll.all (fun q => !(q.1 == i) && !(q.1 + 1 == i))) = true) (k : Wq G M E bc bs (pc + 2) (lv.set i (some (rf G x))) ll st Γ σ) : Wq G M E bc bs pc lv ll (rf G x :: st) Γ σ := Wq.liftL (fun hx hb hl kk => lv_astore hx hb hd hl.1 (of_decide_eq_true (Bool.and_eq_true_iff.mp hb4).1) rfl (fun ls' h' => kk ls' (lvR.put hl.2 rfl (Bool.and_eq_true_iff.mp hb4).2 h'))) k
theorem x_astoreE {G : Ctx} {M : Mth} {E : Ev} {bc bs pc : Nat} {lv : List (Option Value)} {ll : List (Nat × Int64)} {st : List Value} {Γ : List Sh} {σ : Mem} {i : Nat} {x : Nat} (hd : decode (mcd M) pc = .ok (.astore i, 2)) (hb4 : (decide (i < mL M) && ll.all (fun q => !(q.1 == i) && !(q.1 + 1 == i))) = true) (k : Wq G M E bc bs (pc + 2) (lv.set i (some (.ref x))) ll st Γ σ) : Wq G M E bc bs pc lv ll (.ref x :: st) Γ σ := Wq.liftL (fun hx hb hl kk => lv_astore hx hb hd hl.1 (of_decide_eq_true (Bool.and_eq_true_iff.mp hb4).1) rfl (fun ls' h' => kk ls' (lvR.put hl.2 rfl (Bool.and_eq_true_iff.mp hb4).2 h'))) k
theorem x_astoreN {G : Ctx} {M : Mth} {E : Ev} {bc bs pc : Nat} {lv : List (Option Value)} {ll : List (Nat × Int64)} {st : List Value} {Γ : List Sh} {σ : Mem} {i : Nat} (hd : decode (mcd M) pc = .ok (.astore i, 2)) (hb4 : (decide (i < mL M) && ll.all (fun q => !(q.1 == i) && !(q.1 + 1 == i))) = true) (k : Wq G M E bc bs (pc + 2) (lv.set i (some (.null))) ll st Γ σ) : Wq G M E bc bs pc lv ll (.null :: st) Γ σ := Wq.liftL (fun hx hb hl kk => lv_astoreN hx hb hd hl.1 (of_decide_eq_true (Bool.and_eq_true_iff.mp hb4).1) rfl (fun ls' h' => kk ls' (lvR.put hl.2 rfl (Bool.and_eq_true_iff.mp hb4).2 h'))) k
theorem x_lstore {G : Ctx} {M : Mth} {E : Ev} {bc bs pc : Nat} {lv : List (Option Value)} {ll : List (Nat × Int64)} {st : List Value} {Γ : List Sh} {σ : Mem} {i : Nat} {x : Int64} (hd : decode (mcd M) pc = .ok (.lstore i, 2)) (hb4 : (decide (i + 1 < mL M) && ll.all (fun q => (q.1 == i) || (!(q.1 == i + 1) && !(q.1 + 1 == i)))) = true) (k : Wq G M E bc bs (pc + 2) ((lv.set i none).set (i + 1) none) ((i, x) :: ll.filter (fun q => !(q.1 == i))) st Γ σ) : Wq G M E bc bs pc lv ll (.long x :: st) Γ σ := Wq.liftL (fun hx hb hl kk => lv_lstore hx hb hd hl.1 (of_decide_eq_true (Bool.and_eq_true_iff.mp hb4).1) rfl (fun ls' h' => kk ls' (lvR.putL hl.2 (Bool.and_eq_true_iff.mp hb4).2 h'))) k
theorem x_iinc {G : Ctx} {M : Mth} {E : Ev} {bc bs pc : Nat} {lv : List (Option Value)} {ll : List (Nat × Int64)} {st : List Value} {Γ : List Sh} {σ : Mem} {i : Nat} {n : Int} {x v : Int32} (hd : decode (mcd M) pc = .ok (.iinc i n, 3)) (hv : lv[i]? = some (some (.int x))) (hn : x + Int32.ofInt n = v) (hb4 : (decide (i < mL M) && ll.all (fun q => !(q.1 == i) && !(q.1 + 1 == i))) = true) (k : Wq G M E bc bs (pc + 3) (lv.set i (some (.int v))) ll st Γ σ) : Wq G M E bc bs pc lv ll st Γ σ := Wq.liftL (fun hx hb hl kk => x_iinc0 hx hb hd hl hv hn (of_decide_eq_true (Bool.and_eq_true_iff.mp hb4).1) (fun ls' h' => kk ls' (lvR.put hl.2 rfl (Bool.and_eq_true_iff.mp hb4).2 h'))) k
end
section
/-! fields -/
def isI : FieldType → Bool
  | .object _ => false
  | .array _ => false
  | .long => false
  | _ => true
def isR : FieldType → Bool
  | .object _ => true
  | .array _ => true
  | _ => false
theorem fval_I {G : Ctx} {mi : Nat → Int32} {mr : Nat → Option Nat} {ml : Nat → Int64} {j : Nat} {ty : FieldType} (h : isI ty = true) : fval G mi mr ml j ty = .int (mi j) := by
  cases ty <;> first | rfl | cases h
theorem fval_R {G : Ctx} {mi : Nat → Int32} {mr : Nat → Option Nat} {ml : Nat → Int64} {j : Nat} {ty : FieldType} (h : isR ty = true) : fval G mi mr ml j ty = ov G (mr j) := by
  cases ty <;> first | rfl | cases h
theorem fval_cg {G : Ctx} {mi mi' : Nat → Int32} {mr mr' : Nat → Option Nat} {ml ml' : Nat → Int64} {j : Nat} {ty : FieldType} (h1 : mi j = mi' j) (h2 : mr j = mr' j) (h3 : ml j = ml' j) : fval G mi mr ml j ty = fval G mi' mr' ml' j ty := by
  cases ty <;> simp only [fval, h1, h2, h3]
/-- what is fixed of a class's objects -/
def KC (ci : Nat) (C : String) (T : u_T) (N : Nat) : Prop := vwCl[ci]? = some (C, T, N) ∧ (∀ w ∈ u_ws C T N, w ∈ lw_tbl ∧ goodWord w = true) ∧ (∀ k, k < N → parseFieldDescriptor (T k).2.2.1 = some (tyOf ci k)) ∧ (∀ a, a < N → ∀ b, b < N → a ≠ b → (T a).2.1 ≠ (T b).2.1)
/-- a pool entry that names the field j of class ci -/
def FR (own : String) (idx ci j : Nat) : Prop := ∃ (C : String) (T : u_T) (N : Nat) (ref : String), KC ci C T N ∧ j < N ∧
  ((Cond.fieldLink own idx ref (T j).2.1 (T j).2.2.1 ∈ lw_tbl ∧ goodWord (Cond.fieldLink own idx ref (T j).2.1 (T j).2.2.1) = true) ∨ ∃ host, Cond.fieldLinkNest own idx ref (T j).2.1 (T j).2.2.1 host ∈ lw_tbl) ∧
  (ref = (T j).1 ∨ (Cond.sameField ref (T j).1 (T j).2.1 (T j).2.2.1 ∈ lw_tbl ∧ goodWord (Cond.sameField ref (T j).1 (T j).2.1 (T j).2.2.1) = true))
/-- .. and by which it may be written: it isn't final, or its class's own constructor writes it -/
def FW (own mname : String) (idx ci j : Nat) : Prop := ∃ (C : String) (T : u_T) (N : Nat) (ref : String), KC ci C T N ∧ j < N ∧
  (((T j).2.2.2 = false ∧ ((Cond.fieldLink own idx ref (T j).2.1 (T j).2.2.1 ∈ lw_tbl ∧ goodWord (Cond.fieldLink own idx ref (T j).2.1 (T j).2.2.1) = true) ∨ ∃ host, Cond.fieldLinkNest own idx ref (T j).2.1 (T j).2.2.1 host ∈ lw_tbl)) ∨
   ((T j).2.2.2 = true ∧ mname = "<init>" ∧ (T j).1 = own ∧ Cond.fieldLink own idx ref (T j).2.1 (T j).2.2.1 ∈ lw_tbl ∧ goodWord (Cond.fieldLink own idx ref (T j).2.1 (T j).2.2.1) = true)) ∧
  (ref = (T j).1 ∨ (Cond.sameField ref (T j).1 (T j).2.1 (T j).2.2.1 ∈ lw_tbl ∧ goodWord (Cond.sameField ref (T j).1 (T j).2.1 (T j).2.2.1) = true))
section Fields
variable {G : Ctx} {M : Mth} {E : Ev} {bc bs pc idx ci j k : Nat} {lv : List (Option Value)} {ll : List (Nat × Int64)} {st : List Value} {Γ : List Sh} {σ : Mem}
theorem x_get0 (hd : decode (mcd M) pc = .ok (.getfield idx, 3)) (hF : FR (my M).cls idx ci j) (hs : Γ[k]? = some (0, ci)) (kk : Wq G M E bc bs (pc + 3) lv ll (fval G (σ.1 k) (σ.2.1 k) (σ.2.2 k) j (tyOf ci j) :: st) Γ σ) : Wq G M E bc bs pc lv ll (rf G k :: st) Γ σ := by
  intro p e s m args below meth c C H locs cells slots ls hV hS h1 h2 hl
  obtain ⟨Cn, T, N, ref, ⟨hc, hw, hty, hnm⟩, hj, hlk, hsm⟩ := hF
  obtain ⟨r, hr, cell, q1, q2, q3, q4⟩ := hV.2 k _ hs
  cases Option.some.inj (hc.symm.trans hr)
  have hts : ∀ w ∈ u_ws Cn T N, w.before args s = true := fun w h => C.wd (hw w h).1 (hw w h).2
  obtain ⟨hSl, hfc, kC, hkC, hkind⟩ := C.K.1 ci _ hc
  obtain ⟨cf, kf, fi, f, hi, hsl⟩ := hSl j hj
  have hi' : s.fieldFound? ref (T j).2.1 (T j).2.2.1 = some (cf, kf, fi, f) := by
    rcases hsm with h | ⟨h, hg⟩
    · rw [h]; exact hi
    · exact u_same (C.wd (args := args) h hg) _ hi
  have hst := (u_facts hfc hkC (u_lays hts (fun _ h => h) hj) hi).1
  rcases hlk with ⟨h, hg⟩ | ⟨host, h⟩
  · refine W.getf C.exec C.code C.own (C.wd h hg) hi' hst q1 (by rw [q3]; exact fun h => by cases h) ?_ rfl rfl hd (kk p e s m args below meth c C H locs cells slots ls hV hS h1 h2 hl)
    rw [hsl, q4 j hj]
  · refine va_Wgetf C.exec C.code C.own (va_Nw.use rfl (va_Nw.warmF C.warm (va_Nw.of rfl (C.ok.1 _ h)))) hi' hst q1 (by rw [q3]; exact fun h => by cases h) ?_ rfl rfl hd (kk p e s m args below meth c C H locs cells slots ls hV hS h1 h2 hl)
    rw [hsl, q4 j hj]
theorem x_getI (hd : decode (mcd M) pc = .ok (.getfield idx, 3)) (hF : FR (my M).cls idx ci j) (ht : isI (tyOf ci j) = true) (hs : Γ[k]? = some (0, ci)) (kk : Wq G M E bc bs (pc + 3) lv ll (.int (σ.1 k j) :: st) Γ σ) : Wq G M E bc bs pc lv ll (rf G k :: st) Γ σ :=
  x_get0 hd hF hs (by rw [fval_I ht]; exact kk)
theorem x_getR (hd : decode (mcd M) pc = .ok (.getfield idx, 3)) (hF : FR (my M).cls idx ci j) (ht : isR (tyOf ci j) = true) (hs : Γ[k]? = some (0, ci)) {k2 : Nat} (hv : σ.2.1 k j = some k2) (kk : Wq G M E bc bs (pc + 3) lv ll (rf G k2 :: st) Γ σ) : Wq G M E bc bs pc lv ll (rf G k :: st) Γ σ :=
  x_get0 hd hF hs (by rw [fval_R ht, hv]; exact kk)
theorem x_getO (hd : decode (mcd M) pc = .ok (.getfield idx, 3)) (hF : FR (my M).cls idx ci j) (ht : isR (tyOf ci j) = true) (hs : Γ[k]? = some (0, ci)) (kn : σ.2.1 k j = none → Wq G M E bc bs (pc + 3) lv ll (.null :: st) Γ σ) (ks : ∀ k2, σ.2.1 k j = some k2 → Wq G M E bc bs (pc + 3) lv ll (rf G k2 :: st) Γ σ) : Wq G M E bc bs pc lv ll (rf G k :: st) Γ σ :=
  x_get0 hd hF hs (by
    rw [fval_R ht]
    cases h : σ.2.1 k j with
    | none => exact kn h
    | some k2 => exact ks k2 h)
theorem x_put0 {σ' : Mem} {v : Value} (hd : decode (mcd M) pc = .ok (.putfield idx, 3)) (hF : FW (my M).cls (my M).name idx ci j) (hn : narrow (tyOf ci j) v = v) (hf : fits (tyOf ci j) v = true) (hs : Γ[k]? = some (0, ci))
    (h1 : ∀ a, a ≠ k → σ'.1 a = σ.1 a) (h2 : ∀ a, a ≠ k → σ'.2.1 a = σ.2.1 a) (h3 : ∀ a, a ≠ k → σ'.2.2 a = σ.2.2 a)
    (hu : ∀ i, fval G (σ'.1 k) (σ'.2.1 k) (σ'.2.2 k) i (tyOf ci i) = if i = j then v else fval G (σ.1 k) (σ.2.1 k) (σ.2.2 k) i (tyOf ci i))
    (kk : Wq G M E bc bs (pc + 3) lv ll st Γ σ') : Wq G M E bc bs pc lv ll (v :: rf G k :: st) Γ σ := by
  intro p e s m args below meth c C H locs cells slots ls hV hS g1 g2 hl
  obtain ⟨Cn, T, N, ref, ⟨hc, hw, hty, hnm⟩, hj, hlk, hsm⟩ := hF
  obtain ⟨r, hr, cell, q1, q2, q3, q4⟩ := hV.2 k _ hs
  cases Option.some.inj (hc.symm.trans hr)
  have hts : ∀ w ∈ u_ws Cn T N, w.before args s = true := fun w h => C.wd (hw w h).1 (hw w h).2
  have hap := va_apart (own := (my M).cls) hts (fun _ h => h) (tyOf ci) hty hnm C.K hc
  obtain ⟨hSl, hfc, kC, hkC, hkind⟩ := C.K.1 ci _ hc
  obtain ⟨cf, kf, fi, f, hi, hsl⟩ := hSl j hj
  have hi' : s.fieldFound? ref (T j).2.1 (T j).2.2.1 = some (cf, kf, fi, f) := by
    rcases hsm with h | ⟨h, hg⟩
    · rw [h]; exact hi
    · exact u_same (C.wd (args := args) h hg) _ hi
  have hst := (u_facts hfc hkC (u_lays hts (fun _ h => h) hj) hi).1
  have hlay := hts _ (u_in_lay hj)
  unfold u_lay at hlay
  have fin : ∀ H' : Heap, H'[cB G + k]? = some (cell.setSlot f.slot v) → H'.size = H.size → (∀ q : Nat, q ≠ cB G + k → H'[q]? = H[q]?) → W p (cL G) e (eR E) s m args below meth c H' (locs ++ [⟨cB G + k, f.slot⟩]) cells slots (eZ E below args s) (F0 m (pc + 3) ls st) := by
    intro H' e1 e2 e3
    rw [hsl] at e1
    refine kk p e s m args below meth c C H' _ cells slots ls (hV.upd hs h1 h2 h3 e2 e3 ⟨_, hc, t_OB.to (V := updV (fun i => fval G (σ.1 k) (σ.2.1 k) (σ.2.2 k) i (tyOf ci i)) j v) ⟨_, e1, q2, q3, t_set q4 hap hj v⟩ (fun i _ => ?_)⟩) (hS.put e2 e3 (Nat.le_add_right _ _)) g1 g2 hl
    rw [hu i]
    rfl
  rcases hlk with ⟨hfin, hlk⟩ | ⟨hfin, hini, hdecl, h, hg⟩
  · rw [if_neg (by rw [hfin]; decide)] at hlay
    have h6 := u_store hfc hkC hkind hlay hi (hty j hj) hn hf
    rcases hlk with ⟨h, hg⟩ | ⟨host, h⟩
    · exact W.putK C.exec C.code (f := f) ⟨C.own, C.wd h hg, ⟨_, _, _, hi'⟩, hst⟩ (by rw [q2]; exact h6) q1 q3 (by rw [hsl]; exact k2_hasslot (q4 j hj)) rfl rfl hd fin
    · exact va_WputK C.exec C.code (f := f) C.own (va_Nw.use rfl (va_Nw.warmF C.warm (va_Nw.of rfl (C.ok.1 _ h)))) hi' hst (by rw [q2]; exact h6) q1 q3 (by rw [hsl]; exact k2_hasslot (q4 j hj)) rfl rfl hd fin
  · rw [if_pos hfin] at hlay
    have hcf : m.cls = cf := by
      obtain ⟨_, _, c', _, _, _, -, -, hf', -, -, -, hown2, -⟩ := Cond.laysFinal_spec hlay
      have e1 : c' = cf := by have := hi.symm.trans hf'; simp at this; exact this.1.symm
      rw [hdecl] at hown2
      rw [← e1]; exact Option.some.inj (C.own.symm.trans hown2)
    have h6 := u_fits hfc hkC hkind (Or.inr hlay) hi (hty j hj) hn hf
    exact W.putFinK C.exec C.code C.own (C.wd h hg) hi' hst hcf (C.name.trans hini) (by rw [q2]; exact h6) q1 q3 (by rw [hsl]; exact k2_hasslot (q4 j hj)) rfl rfl hd fin
theorem x_putI {x : Int32} (hd : decode (mcd M) pc = .ok (.putfield idx, 3)) (hF : FW (my M).cls (my M).name idx ci j) (ht : isI (tyOf ci j) = true) (hn : narrow (tyOf ci j) (.int x) = .int x) (hf : fits (tyOf ci j) (.int x) = true) (hs : Γ[k]? = some (0, ci)) (kk : Wq G M E bc bs (pc + 3) lv ll st Γ (wI σ k j x)) : Wq G M E bc bs pc lv ll (.int x :: rf G k :: st) Γ σ := by
  refine x_put0 hd hF hn hf hs (σ' := wI σ k j x) (fun a ha => funext fun i => ?_) (fun a ha => rfl) (fun a ha => rfl) (fun i => ?_) kk
  · simp [wI, ha]
  · by_cases e : i = j
    · subst e
      rw [if_pos rfl, fval_I ht]
      simp [wI]
    · rw [if_neg e]
      exact fval_cg (by simp [wI, e]) rfl rfl
theorem x_putQ {o : Option Nat} (hd : decode (mcd M) pc = .ok (.putfield idx, 3)) (hF : FW (my M).cls (my M).name idx ci j) (ht : isR (tyOf ci j) = true) (hs : Γ[k]? = some (0, ci)) (kk : Wq G M E bc bs (pc + 3) lv ll st Γ (wR σ k j o)) : Wq G M E bc bs pc lv ll (ov G o :: rf G k :: st) Γ σ := by
  have hnf : narrow (tyOf ci j) (ov G o) = ov G o ∧ fits (tyOf ci j) (ov G o) = true := by
    cases hty : tyOf ci j <;> rw [hty] at ht <;> first | (cases o <;> exact ⟨rfl, rfl⟩) | cases ht
  refine x_put0 hd hF hnf.1 hnf.2 hs (σ' := wR σ k j o) (fun a ha => rfl) (fun a ha => funext fun i => ?_) (fun a ha => rfl) (fun i => ?_) kk
  · simp [wR, ha]
  · by_cases e : i = j
    · subst e
      rw [if_pos rfl, fval_R ht]
      simp [wR]
    · rw [if_neg e]
      exact fval_cg rfl (by simp [wR, e]) rfl
theorem x_putR {k2 : Nat} (hd : decode (mcd M) pc = .ok (.putfield idx, 3)) (hF : FW (my M).cls (my M).name idx ci j) (ht : isR (tyOf ci j) = true) (hs : Γ[k]? = some (0, ci)) (kk : Wq G M E bc bs (pc + 3) lv ll st Γ (wR σ k j (some k2))) : Wq G M E bc bs pc lv ll (rf G k2 :: rf G k :: st) Γ σ := x_putQ (o := some k2) hd hF ht hs kk
theorem x_putN (hd : decode (mcd M) pc = .ok (.putfield idx, 3)) (hF : FW (my M).cls (my M).name idx ci j) (ht : isR (tyOf ci j) = true) (hs : Γ[k]? = some (0, ci)) (kk : Wq G M E bc bs (pc + 3) lv ll st Γ (wR σ k j none)) : Wq G M E bc bs pc lv ll (.null :: rf G k :: st) Γ σ := x_putQ (o := none) hd hF ht hs kk
end Fields
end
section
/-! methods' ends, contracts -/
def RM (d mc ms : Nat) : Room := { frames := d, cells := mc, slots := ms, locals := 40 * d }
def QC (G : Ctx) (Q : Option Value → List Sh → Mem → Prop) : Array Value → State → Outcome → State → Prop := fun _ st o t => ∃ (r : Option Value) (Γ : List Sh) (σ : Mem), o = .returned r ∧ Q r Γ σ ∧ VH G Γ σ t.heap ∧ va_F (fre G) st t
def Em (G : Ctx) (d mc ms : Nat) (Q : Option Value → List Sh → Mem → Prop) : Ev := (RM d mc ms, mc, ms, fun below args s => MQ below (QC G Q) args s mc ms (fre G))
def mws (M : Mth) : List Cond := match mhh M with
  | some (h :: t) => [.codeWith (my M) (mcd M) (mL M) (mrt M) (h :: t)]
  | _ => [.code (my M) (mcd M) (mL M) (mrt M)]
def Pcc (G : Ctx) (as : List Value) (Γ : List Sh) (σ : Mem) : Array Value → State → Prop := va_Pc as (fun U => (cS G).WarmedH U.vm ∧ cB G ≤ U.heap.size ∧ Out G U.heap ∧ VH G Γ σ U.heap)
def Ct (G : Ctx) (M : Mth) (d mc ms : Nat) (as : List Value) (Γ : List Sh) (σ : Mem) (Q : Option Value → List Sh → Mem → Prop) : Prop :=
  OKc G → Met (cL G) (my M) (mws M) (RM d mc ms) (Pcc G as Γ σ) (QC G Q) mc ms (fre G)
def EN (as : List Value) (lv : List (Option Value)) (ll : List (Nat × Int64)) (nL : Nat) : Prop := (lg_sl as).length ≤ nL ∧ (∀ (i : Nat) (v : Value), lv[i]? = some (some v) → (i, v) ∈ lv_args 0 as ∧ v.category = 1) ∧ ∀ q ∈ ll, (q.1, Value.long q.2) ∈ lv_args 0 as
def cat1 : List Value → Prop
  | [] => True
  | v :: r => v.category = 1 ∧ cat1 r
theorem cat1_sl : ∀ {as : List Value}, cat1 as → (lg_sl as).length = as.length
  | [], _ => rfl
  | v :: r, h => by
    have h2 := cat1_sl (as := r) h.2
    have h1 := h.1
    simp [lg_sl, h1] at h2 ⊢
    omega
theorem cat1_args : ∀ {as : List Value} {n i : Nat} {v : Value}, cat1 as → as[i]? = some v → (n + i, v) ∈ lv_args n as ∧ v.category = 1
  | [], _, _, _, _, h => by simp at h
  | w :: r, n, 0, v, hc, h => by
    simp at h
    subst h
    exact ⟨List.mem_cons_self, hc.1⟩
  | w :: r, n, i + 1, v, hc, h => by
    have h1 := cat1_args (n := n + 1) (i := i) hc.2 (by simpa using h)
    refine ⟨List.mem_cons_of_mem _ ?_, h1.2⟩
    rw [if_neg (by rw [hc.1]; decide), show n + (i + 1) = n + 1 + i by omega]
    exact h1.1
theorem EN.cat {as : List Value} {n nL : Nat} (h : cat1 as) (hn : as.length ≤ nL) : EN as (as.map some ++ List.replicate n none) [] nL := by
  refine ⟨by rw [cat1_sl h]; exact hn, fun i v hi => ?_, fun q hq => by cases hq⟩
  have h2 : as[i]? = some v := by
    rw [List.getElem?_append] at hi
    split at hi
    · rw [List.getElem?_map] at hi
      cases ha : as[i]? with
      | none => rw [ha] at hi; cases hi
      | some w => rw [ha] at hi; simp at hi; rw [hi]
    · rw [List.getElem?_replicate] at hi
      split at hi <;> simp at hi
  have h3 := cat1_args (n := 0) h h2
  rw [Nat.zero_add] at h3
  exact h3
theorem Pcc.blind {G : Ctx} {as : List Value} {Γ : List Sh} {σ : Mem} : FrameBlind (Pcc G as Γ σ) := fun a U g mk h => h
section Cts
variable {G : Ctx} {M : Mth} {d mc ms : Nat} {as : List Value} {lv : List (Option Value)} {ll : List (Nat × Int64)} {Γ : List Sh} {σ : Mem} {Q : Option Value → List Sh → Mem → Prop}
theorem Ct.of (hy : plainName (my M).cls = true) (hh : mhh M = some []) (he : EN as lv ll (mL M)) (k : Wq G M (Em G d mc ms Q) mc ms 0 lv ll [] Γ σ) : Ct G M d mc ms as Γ σ Q := by
  intro hok
  refine Met.ofW (cc := mcd M) (maxL := mL M) (ret := mrt M) (ws' := []) hy (by unfold mws; rw [hh]) ?_
  intro p e s m args below meth c s₁ B hml hP
  obtain ⟨rfl, hW, hbig, hout, hV⟩ := hP
  have C : Cx G M p s m meth c := ⟨hok, B.exec, B.bytes, B.returns, B.notSynchronized, hml, findClass_of_methodNamed B.named, (name_of_methodNamed B.named B.method).1, hW, hbig, hout, fun h9 e9 => by
    cases Option.some.inj (hh.symm.trans e9)
    obtain ⟨meth9, c9, h1, h2, -, -, -, -, h7, -⟩ := Cond.code_spec B.named (atoms_spec (ws := mws M) B.pre _ (by unfold mws; rw [hh]; exact List.mem_cons_self))
    cases Option.some.inj (h1.symm.trans B.method)
    cases Option.some.inj (h2.symm.trans (Stand.of_body B).code)
    exact List.eq_nil_iff_forall_not_mem.mpr fun x hx => by
      rw [Array.isEmpty_iff.mp h7] at hx
      cases hx⟩
  rw [lg_entry_eq]
  have hl0 := lv_entry as he.1
  exact k p e s m _ below meth c C s.heap [] 0 0 _ hV va_S.rf (by simp [eC, Em]) (by simp [eM, Em]) ⟨⟨hl0.1, hl0.2.1, fun q hq => by
    rcases List.mem_append.mp hq with h | h
    · exact hl0.2.2 q (he.2.1 _ _ (asc_mem.mp h)).1
    · obtain ⟨q0, h0, e0⟩ := List.mem_map.mp h
      cases e0
      exact hl0.2.2 _ (he.2.2 q0 h0)⟩, fun i v h => (he.2.1 i v h).2⟩
end Cts
/-! returns -/
section Rets
variable {G : Ctx} {M : Mth} {d mc ms bc bs pc : Nat} {lv : List (Option Value)} {ll : List (Nat × Int64)} {Γ : List Sh} {σ : Mem} {Q : Option Value → List Sh → Mem → Prop}
theorem x_ireturn {ty : FieldType} {v : Int32} (hd : decode (mcd M) pc = .ok (.ireturn, 1)) (hr : mrt M = some ty) (hn : narrow ty (.int v) = .int v) (hQ : Q (some (.int v)) Γ σ) : Wq G M (Em G d mc ms Q) bc bs pc lv ll [.int v] Γ σ := by
  intro p e s m args below meth c C H locs cells slots ls hV hS h1 h2 hl
  refine W.widen (k := mc) (n := ms) (by simp [eC, Em] at h1; omega) (by simp [eM, Em] at h2; omega) ?_
  exact W.zret C.exec C.code (C.ret.trans hr) hn (fun t ht hW => ⟨_, Γ, σ, rfl, hQ, by rw [ht]; exact hV, hS.F ht⟩) hS.2.2 hd C.locks
theorem x_lreturn {v : Int64} (hd : decode (mcd M) pc = .ok (.lreturn, 1)) (hr : mrt M = some .long) (hQ : Q (some (.long v)) Γ σ) : Wq G M (Em G d mc ms Q) bc bs pc lv ll [.long v] Γ σ := by
  intro p e s m args below meth c C H locs cells slots ls hV hS h1 h2 hl
  refine W.widen (k := mc) (n := ms) (by simp [eC, Em] at h1; omega) (by simp [eM, Em] at h2; omega) ?_
  exact W.lret C.exec C.code (C.ret.trans hr) (fun t ht hW => ⟨_, Γ, σ, rfl, hQ, by rw [ht]; exact hV, hS.F ht⟩) hS.2.2 hd C.locks
theorem x_return (hd : decode (mcd M) pc = .ok (.return_, 1)) (hr : mrt M = none) (hQ : Q none Γ σ) : Wq G M (Em G d mc ms Q) bc bs pc lv ll [] Γ σ := by
  intro p e s m args below meth c C H locs cells slots ls hV hS h1 h2 hl
  refine W.widen (k := mc) (n := ms) (by simp [eC, Em] at h1; omega) (by simp [eM, Em] at h2; omega) ?_
  exact W.vret C.exec C.code (C.ret.trans hr) (fun t ht hW => ⟨_, Γ, σ, rfl, hQ, by rw [ht]; exact hV, hS.F ht⟩) hS.2.2 hd C.locks
theorem x_areturn0 {rt : FieldType} {v : Value} (hd : decode (mcd M) pc = .ok (.areturn, 1)) (hr : mrt M = some rt) (hrt : (∃ n, rt = .object n) ∨ ∃ t, rt = .array t) (hv : v = .null ∨ ∃ a, v = .ref a) (hQ : Q (some v) Γ σ) : Wq G M (Em G d mc ms Q) bc bs pc lv ll [v] Γ σ := by
  intro p e s m args below meth c C H locs cells slots ls hV hS h1 h2 hl
  refine W.widen (k := mc) (n := ms) (by simp [eC, Em] at h1; omega) (by simp [eM, Em] at h2; omega) ?_
  exact W.aret C.exec C.code (C.ret.trans hr) hrt hv (fun t ht hW => ⟨_, Γ, σ, rfl, hQ, by rw [ht]; exact hV, hS.F ht⟩) hS.2.2 hd C.locks
theorem x_areturn {n : String} {k : Nat} (hd : decode (mcd M) pc = .ok (.areturn, 1)) (hr : mrt M = some (.object n)) (hQ : Q (some (rf G k)) Γ σ) : Wq G M (Em G d mc ms Q) bc bs pc lv ll [rf G k] Γ σ := x_areturn0 hd hr (Or.inl ⟨n, rfl⟩) (Or.inr ⟨_, rfl⟩) hQ
theorem x_areturnN {n : String} (hd : decode (mcd M) pc = .ok (.areturn, 1)) (hr : mrt M = some (.object n)) (hQ : Q (some .null) Γ σ) : Wq G M (Em G d mc ms Q) bc bs pc lv ll [.null] Γ σ := x_areturn0 hd hr (Or.inl ⟨n, rfl⟩) (Or.inl rfl) hQ
end Rets
end
section
/-! calls -/
def gd (w : Cond) : Prop := w ∈ lw_tbl ∧ goodWord w = true
theorem Cx.g {G : Ctx} {M : Mth} {p : Program} {s : State} {m : MethodId} {meth : Method} {c : Code} (C : Cx G M p s m meth c) {args : Array Value} {w : Cond} (h : gd w) : w.before args s = true := C.wd h.1 h.2
theorem Cx.gw {G : Ctx} {M : Mth} {p : Program} {s : State} {m : MethodId} {meth : Method} {c : Code} (C : Cx G M p s m meth c) {w : Cond} (h : gd w) : ∀ (a' : Array Value) (U : State), s.WarmedH U.vm → w.before a' U = true := fun a' U hW => word_at hW (good_of_word h.2) (C.g (args := #[]) h)
/-- a method without handlers, as the tables have it: n parameters -/
def LK (M : Mth) (n : Nat) : Prop := gd (.code (my M) (mcd M) (mL M) (mrt M)) ∧ gd (.initialized (my M).cls) ∧ ((my M).cls ≠ "java/lang/invoke/MethodHandle" ∧ (my M).cls ≠ "java/lang/invoke/VarHandle") ∧ (parseMethodDescriptor (my M).desc).map (fun d => d.parameters.length) = some n ∧ mws M = [.code (my M) (mcd M) (mL M) (mrt M)] ∧ mL M ≤ 21
def RoomE (E : Ev) (d : Nat) : Prop := d + 1 ≤ (eR E).frames ∧ 40 * d + 40 ≤ (eR E).locals ∧ eC E ≤ (eR E).cells ∧ eM E ≤ (eR E).slots
theorem RoomE.m {G : Ctx} {d mc ms : Nat} {Q : Option Value → List Sh → Mem → Prop} : RoomE (Em G (d + 1) mc ms Q) d := by
  refine ⟨?_, ?_, Nat.le_refl _, Nat.le_refl _⟩
  · show d + 1 ≤ d + 1; omega
  · show 40 * d + 40 ≤ 40 * (d + 1); omega
theorem len_of {y : MethodName} {n : Nat} (h : (parseMethodDescriptor y.desc).map (fun d => d.parameters.length) = some n) : ∀ sig, parseMethodDescriptor y.desc = some sig → n = sig.parameters.length := by
  intro sig hs
  rw [hs] at h
  exact (Option.some.inj h).symm
section Calls0
variable {G : Ctx} {M M' : Mth} {E : Ev} {d mc ms bc bs pc idx n k ci : Nat} {lv : List (Option Value)} {ll : List (Nat × Int64)} {st as : List Value} {Γ : List Sh} {σ : Mem}
variable {p : Program} {e : Env} {s : State} {m : MethodId} {args : Array Value} {below : List Frame} {meth : Method} {c : Code} {H : Heap} {locs : List Loc} {cells slots : Nat} {ls : Array Slot}
theorem pre_of (C : Cx G M p s m meth c) (hV : VH G Γ σ H) (hS : va_S (fre G) s.heap H locs) : ∀ U : State, U.heap = H → s.WarmedH U.vm → Pcc G as Γ σ as.toArray U := by
  intro U hU hW
  refine ⟨rfl, State.WarmedH.trans C.warm hW, by rw [hU, hV.1]; exact Nat.le_add_right _ _, fun q hq => ?_, by rw [hU]; exact hV⟩
  rw [hU, hS.2.1 q (Nat.lt_of_lt_of_le hq C.big) (fun h => absurd h (Nat.not_le.mpr hq))]
  exact C.out q hq
theorem rcv_of (C : Cx G M p s m meth c) (hV : VH G Γ σ H) {r : vw_C} (hc : vwCl[ci]? = some r) (hs : Γ[k]? = some (0, ci)) : ∃ cellB : Cell, H[cB G + k]? = some cellB ∧ cellB.vm.isStatics = false ∧ s.vm.findClass r.1 = some cellB.cls := by
  obtain ⟨r', hr, cell, q1, q2, q3, q4⟩ := hV.2 k _ hs
  exact ⟨cell, q1, by rw [q3]; rfl, by rw [q2]; exact (C.K.1 ci _ hc).2.1⟩
theorem go_run {Q' : Option Value → List Sh → Mem → Prop} {a : Array Value} {st0 : List Value} (C : Cx G M p s m meth c) (hS : va_S (fre G) s.heap H locs) (h1 : cells + (bc + mc) ≤ eC E) (h2 : slots + (bs + ms) ≤ eM E) (hl : lvR ls (mL M) lv ll)
    (hr : va_Run p (cL G) e (eR E) s m args below meth c H locs cells slots mc ms (F0 m pc ls st0) st (QC G Q' a) (fre G)) (hk : ∀ r Γ' σ', Q' r Γ' σ' → Wq G M E bc bs (pc + 3) lv ll (r.toList ++ st) Γ' σ') : W p (cL G) e (eR E) s m args below meth c H locs cells slots (eZ E below args s) (F0 m pc ls st0) := by
  intro T hT X
  obtain ⟨v, st₀, t, T', L, h0, X', hL, e1, e2, ⟨r, Γ', σ', hv, hq, hV', hz, hkp⟩, hst⟩ := hr T hT X
  cases hv
  rw [h0] at hz hkp
  have k3 : va_S (fre G) s.heap T'.heap (locs ++ L) := ⟨Nat.le_trans hS.1 (by rw [e1]; exact hz), fun q g1 g2 => by rw [e1, hkp q (Nat.lt_of_lt_of_le g1 hS.1) g2]; exact hS.2.1 q g1 g2, fun q hq2 => by
    rcases List.mem_append.mp hq2 with h | h
    · exact hS.2.2 q h
    · exact hL q h⟩
  obtain ⟨t2, a1, b1⟩ := hk v Γ' σ' hq p e s m args below meth c C T'.heap (locs ++ L) (cells + mc) (slots + ms) ls (by rw [e1]; exact hV') k3 (by omega) (by omega) hl T' rfl X'
  exact ⟨t2, hst t2 a1, b1⟩
theorem cb_of (C : Cx G M p s m meth c) (hL : LK M' n) (hR : RoomE E d) (hl : (Cond.methodLink (my M).cls idx (my M')).before args s = true) : CallB (eR E) s args (my M).cls idx (my M') (mcd M') (mL M') (mrt M') (mws M') (RM d mc ms) mc ms n := by
  obtain ⟨c1, c2, c3, c4, c5, c6⟩ := hL
  refine ⟨rfl, rfl, hR.1, ?_, ?_, by rw [c5]; exact List.mem_cons_self, C.g c1, C.g c2, c3, len_of c4, hl⟩
  · have := hR.2.1
    show 8 + (mL M' + 11) + 40 * d ≤ (eR E).locals
    omega
  · rw [c5]
    intro w hw
    rw [List.mem_singleton.mp hw]
    exact C.gw c1
end Calls0
section Calls1
variable {G : Ctx} {M M' : Mth} {E : Ev} {d mc ms bc bs pc idx n k ci : Nat} {lv : List (Option Value)} {ll : List (Nat × Int64)} {st as : List Value} {Γ : List Sh} {σ : Mem}
/-- a method's call, by the class that its name stands in -/
theorem x_callVg {r : vw_C} (hd : decode (mcd M) pc = .ok (.invokevirtual idx, 3)) (hL : LK M' n) (hl : gd (.methodLink (my M).cls idx (my M'))) (hi : gd (.instanceMethod (my M'))) (hc : vwCl[ci]? = some r) (hsel : gd (.selects r.1 (my M') (my M'))) (hs : Γ[k]? = some (0, ci)) (hn : as.length = n) (hR : RoomE E d) (hcat : (st.map fun v => v.category).sum ≤ 8)
    (hC : Ct G M' d mc ms (rf G k :: as) Γ σ (fun r Γ' σ' => Wq G M E bc bs (pc + 3) lv ll (r.toList ++ st) Γ' σ')) : Wq G M E (bc + mc) (bs + ms) pc lv ll (as.reverse ++ rf G k :: st) Γ σ := by
  intro p e s m args below meth c C H locs cells slots ls hV hS h1 h2 hlv
  refine go_run C hS h1 h2 hlv (va_runV (Ts := []) (n := n) (b := cB G + k) (As := as) (rest := st) ⟨C.exec, C.code, C.maxL, C.own, fun w h => by cases h⟩ (hC C.ok) ⟨cb_of C hL hR (C.g hl), C.g hi, C.g hsel⟩ ⟨Pcc.blind, rcv_of C hV hc hs, pre_of C hV hS⟩ rfl hn hlv.1.1 rfl (lv_room hcat) hd ⟨?_, ?_⟩) (fun _ _ _ h => h)
  · have := hR.2.2.1; omega
  · have := hR.2.2.2; omega
theorem x_callSg (hd : decode (mcd M) pc = .ok (.invokestatic idx, 3)) (hL : LK M' n) (hl : gd (.methodLink (my M).cls idx (my M'))) (hi : gd (.static (my M'))) (hn : as.length = n) (hR : RoomE E d) (hcat : (st.map fun v => v.category).sum ≤ 8)
    (hC : Ct G M' d mc ms as Γ σ (fun r Γ' σ' => Wq G M E bc bs (pc + 3) lv ll (r.toList ++ st) Γ' σ')) : Wq G M E (bc + mc) (bs + ms) pc lv ll (as.reverse ++ st) Γ σ := by
  intro p e s m args below meth c C H locs cells slots ls hV hS h1 h2 hlv
  refine go_run C hS h1 h2 hlv (va_runS (Ts := []) (n := n) (As := as) (rest := st) ⟨C.exec, C.code, C.maxL, C.own, fun w h => by cases h⟩ (hC C.ok) ⟨cb_of C hL hR (C.g hl), C.g hi⟩ ⟨Pcc.blind, pre_of C hV hS⟩ rfl hn hlv.1.1 rfl (lv_room hcat) hd ⟨?_, ?_⟩) (fun _ _ _ h => h)
  · have := hR.2.2.1; omega
  · have := hR.2.2.2; omega
theorem x_callIg (hd : decode (mcd M) pc = .ok (.invokespecial idx, 3)) (hL : LK M' n) (hr : mrt M' = none) (hl : gd (.methodLink (my M).cls idx (my M'))) (hi : gd (.instanceMethod (my M'))) (hnm : (my M').name = "<init>") (hn : as.length = n) (hR : RoomE E d) (hcat : (st.map fun v => v.category).sum ≤ 8)
    (hC : Ct G M' d mc ms (rf G k :: as) Γ σ (fun r Γ' σ' => Wq G M E bc bs (pc + 3) lv ll (r.toList ++ st) Γ' σ')) : Wq G M E (bc + mc) (bs + ms) pc lv ll (as.reverse ++ rf G k :: st) Γ σ := by
  intro p e s m args below meth c C H locs cells slots ls hV hS h1 h2 hlv
  refine go_run C hS h1 h2 hlv (va_runI (Ts := []) (n := n) (b := cB G + k) (As := as) (rest := st) (maxL := mL M') (bytes := mcd M') ⟨C.exec, C.code, C.maxL, C.own, fun w h => by cases h⟩ (hC C.ok) ⟨by rw [← hr]; exact cb_of C hL hR (C.g hl), hnm, C.g hi⟩ ⟨Pcc.blind, pre_of C hV hS⟩ rfl hn hlv.1.1 rfl (lv_room hcat) hd ⟨?_, ?_⟩) (fun _ _ _ h => h)
  · have := hR.2.2.1; omega
  · have := hR.2.2.2; omega
end Calls1
end
section
/-! arrays -/
theorem tysL_at {CA : Nat → ClassId} {t : Nat} (h1 : 1 ≤ t) (h2 : t < NTY) : (tysL CA)[t - 1]? = some (CA t, ctyp t) := by
  have h2 : t < 6 := h2
  unfold tysL
  rw [List.getElem?_map, List.getElem?_range (by omega)]
  show some (CA (t - 1 + 1), ctyp (t - 1 + 1)) = _
  rw [Nat.sub_add_cancel h1]
theorem Cx.arr {G : Ctx} {M : Mth} {p : Program} {s : State} {m : MethodId} {meth : Method} {c : Code} (C : Cx G M p s m meth c) {t : Nat} (h1 : 1 ≤ t) (h2 : t < NTY) : ArrOfT s (cCA G t) (ctyp t) ∧ va_RA s (cCA G t) (ctyp t) := C.K.2 _ _ (tysL_at h1 h2)
theorem cellOK.arr {G : Ctx} {mi : Nat → Int32} {mr : Nat → Option Nat} {ml : Nat → Int64} {k t n : Nat} {H : Heap} (h : cellOK G mi mr ml k (t, n) H) (h1 : 1 ≤ t) (h2 : t < 9) : ∃ f, H[cB G + k]? = some (arrV (cCA G t) n f) := by
  unfold cellOK at h
  split at h
  · next e => cases e; omega
  · next e => cases e; exact ⟨_, h⟩
  · next e => cases e; exact ⟨_, h⟩
  · next e => cases e; exact ⟨_, h⟩
  · next e => cases e; exact ⟨_, h h2⟩
theorem cellOK.q {G : Ctx} {mi : Nat → Int32} {mr : Nat → Option Nat} {ml : Nat → Int64} {k t n : Nat} {H : Heap} (h1 : 4 ≤ t) (h2 : t < 9) : cellOK G mi mr ml k (t, n) H ↔ H[cB G + k]? = some (arrV (cCA G t) n (fun i => ov G (mr i))) := by
  match t, h1 with
  | t + 4, _ => exact ⟨fun h => h h2, fun h _ => h⟩
section Arrays
variable {G : Ctx} {M : Mth} {E : Ev} {bc bs pc k t n : Nat} {lv : List (Option Value)} {ll : List (Nat × Int64)} {st : List Value} {Γ : List Sh} {σ : Mem} {i x : Int32}
theorem x_alen {v : Int32} (hd : decode (mcd M) pc = .ok (.arraylength, 1)) (hs : Γ[k]? = some (t, n)) (ht : 1 ≤ t ∧ t < NTY) (hv : Int32.ofNat n = v) (kk : Wq G M E bc bs (pc + 1) lv ll (.int v :: st) Γ σ) : Wq G M E bc bs pc lv ll (rf G k :: st) Γ σ := by
  intro p e s m args below meth c C H locs cells slots ls hV hS h1 h2 hl
  obtain ⟨f, hc⟩ := (hV.2 k _ hs).arr ht.1 (Nat.lt_of_lt_of_le ht.2 NTY9)
  exact W.alen C.exec C.code hc ((C.arr ht.1 ht.2).1 n f) (by rw [arrV_size]; exact hv) rfl rfl hd (kk p e s m args below meth c C H locs cells slots ls hV hS h1 h2 hl)
theorem x_iald (hd : decode (mcd M) pc = .ok (.iaload, 1)) (hs : Γ[k]? = some (1, n)) (hin : vp_in i n) (kk : Wq G M E bc bs (pc + 1) lv ll (.int (σ.1 k i.toNatClampNeg) :: st) Γ σ) : Wq G M E bc bs pc lv ll (.int i :: rf G k :: st) Γ σ := by
  intro p e s m args below meth c C H locs cells slots ls hV hS h1 h2 hl
  have hlt : i.toNatClampNeg < n := Nat.not_le.mp fun q => hin (Or.inr q)
  have hc : H[cB G + k]? = some (arrV (cCA G 1) n (fun i => .int (σ.1 k i))) := hV.2 k _ hs
  exact W.iald C.exec C.code hc ((C.arr (t := 1) (by decide) (by decide)).1 n _) (fun q => by cases q) (by rw [arrV_size]; exact hin) (arrV_read _ _ hlt) rfl rfl hd (kk p e s m args below meth c C H locs cells slots ls hV hS h1 h2 hl)
theorem x_zald (hd : decode (mcd M) pc = .ok (.baload, 1)) (hs : Γ[k]? = some (2, n)) (hin : vp_in i n) (kk : Wq G M E bc bs (pc + 1) lv ll (.int (σ.1 k i.toNatClampNeg) :: st) Γ σ) : Wq G M E bc bs pc lv ll (.int i :: rf G k :: st) Γ σ := by
  intro p e s m args below meth c C H locs cells slots ls hV hS h1 h2 hl
  have hlt : i.toNatClampNeg < n := Nat.not_le.mp fun q => hin (Or.inr q)
  have hc : H[cB G + k]? = some (arrV (cCA G 2) n (fun i => .int (σ.1 k i))) := hV.2 k _ hs
  exact W.zald C.exec C.code hc ((C.arr (t := 2) (by decide) (by decide)).1 n _) (fun q => by cases q) (by rw [arrV_size]; exact hin) (arrV_read _ _ hlt) rfl rfl hd (kk p e s m args below meth c C H locs cells slots ls hV hS h1 h2 hl)
theorem x_lald (hd : decode (mcd M) pc = .ok (.laload, 1)) (hs : Γ[k]? = some (3, n)) (hin : vp_in i n) (kk : Wq G M E bc bs (pc + 1) lv ll (.long (σ.2.2 k i.toNatClampNeg) :: st) Γ σ) : Wq G M E bc bs pc lv ll (.int i :: rf G k :: st) Γ σ := by
  intro p e s m args below meth c C H locs cells slots ls hV hS h1 h2 hl
  have hlt : i.toNatClampNeg < n := Nat.not_le.mp fun q => hin (Or.inr q)
  have hc : H[cB G + k]? = some (arrV (cCA G 3) n (fun i => .long (σ.2.2 k i))) := hV.2 k _ hs
  exact W.lald C.exec C.code hc ((C.arr (t := 3) (by decide) (by decide)).1 n _) (fun q => by cases q) (by rw [arrV_size]; exact hin) (arrV_read _ _ hlt) rfl rfl hd (kk p e s m args below meth c C H locs cells slots ls hV hS h1 h2 hl)
theorem x_aald0 (hd : decode (mcd M) pc = .ok (.aaload, 1)) (hs : Γ[k]? = some (t, n)) (ht : 4 ≤ t ∧ t < NTY) (hin : vp_in i n) (kk : Wq G M E bc bs (pc + 1) lv ll (ov G (σ.2.1 k i.toNatClampNeg) :: st) Γ σ) : Wq G M E bc bs pc lv ll (.int i :: rf G k :: st) Γ σ := by
  intro p e s m args below meth c C H locs cells slots ls hV hS h1 h2 hl
  have hlt : i.toNatClampNeg < n := Nat.not_le.mp fun q => hin (Or.inr q)
  have hc := (cellOK.q ht.1 (Nat.lt_of_lt_of_le ht.2 NTY9)).mp (hV.2 k _ hs)
  exact W.aald C.exec C.code hc ((C.arr (by omega) ht.2).1 n _) (ctyp_ref ht.1 ht.2) (fun q => by cases q) (by rw [arrV_size]; exact hin) (arrV_read _ _ hlt) rfl rfl hd (kk p e s m args below meth c C H locs cells slots ls hV hS h1 h2 hl)
theorem x_aald (hd : decode (mcd M) pc = .ok (.aaload, 1)) (hs : Γ[k]? = some (t, n)) (ht : 4 ≤ t ∧ t < NTY) (hin : vp_in i n) {k2 : Nat} (hv : σ.2.1 k i.toNatClampNeg = some k2) (kk : Wq G M E bc bs (pc + 1) lv ll (rf G k2 :: st) Γ σ) : Wq G M E bc bs pc lv ll (.int i :: rf G k :: st) Γ σ := x_aald0 hd hs ht hin (by rw [hv]; exact kk)
theorem x_aaldO (hd : decode (mcd M) pc = .ok (.aaload, 1)) (hs : Γ[k]? = some (t, n)) (ht : 4 ≤ t ∧ t < NTY) (hin : vp_in i n) (kn : σ.2.1 k i.toNatClampNeg = none → Wq G M E bc bs (pc + 1) lv ll (.null :: st) Γ σ) (ks : ∀ k2, σ.2.1 k i.toNatClampNeg = some k2 → Wq G M E bc bs (pc + 1) lv ll (rf G k2 :: st) Γ σ) : Wq G M E bc bs pc lv ll (.int i :: rf G k :: st) Γ σ := x_aald0 hd hs ht hin (by
  cases h : σ.2.1 k i.toNatClampNeg with
  | none => exact kn h
  | some k2 => exact ks k2 h)
theorem x_iast (hd : decode (mcd M) pc = .ok (.iastore, 1)) (hs : Γ[k]? = some (1, n)) (hin : vp_in i n) (kk : Wq G M E bc bs (pc + 1) lv ll st Γ (wI σ k i.toNatClampNeg x)) : Wq G M E bc bs pc lv ll (.int x :: .int i :: rf G k :: st) Γ σ := by
  intro p e s m args below meth c C H locs cells slots ls hV hS h1 h2 hl
  have hc : H[cB G + k]? = some (arrV (cCA G 1) n (fun i => .int (σ.1 k i))) := hV.2 k _ hs
  refine W.iast C.exec C.code hc ((C.arr (t := 1) (by decide) (by decide)).1 n _) (fun q => by cases q) (by rw [arrV_size]; exact hin) rfl rfl hd fun H1 e1 z oq => ?_
  refine kk p e s m args below meth c C H1 _ cells slots ls (hV.upd hs (fun a ha => funext fun q => by simp [wI, ha]) (fun _ _ => rfl) (fun _ _ => rfl) z oq ?_) (hS.put z oq (Nat.le_add_right _ _)) h1 h2 hl
  show H1[cB G + k]? = some (arrV (cCA G 1) n (fun q => .int ((wI σ k i.toNatClampNeg x).1 k q)))
  rw [e1, arrV_store]
  congr 2
  funext q
  by_cases hq : q = i.toNatClampNeg <;> simp [updV, wI, hq]
theorem x_zast (hd : decode (mcd M) pc = .ok (.bastore, 1)) (hs : Γ[k]? = some (2, n)) (hin : vp_in i n) (hx : vp_nar .boolean x = x) (kk : Wq G M E bc bs (pc + 1) lv ll st Γ (wI σ k i.toNatClampNeg x)) : Wq G M E bc bs pc lv ll (.int x :: .int i :: rf G k :: st) Γ σ := by
  intro p e s m args below meth c C H locs cells slots ls hV hS h1 h2 hl
  have hc : H[cB G + k]? = some (arrV (cCA G 2) n (fun i => .int (σ.1 k i))) := hV.2 k _ hs
  refine W.zast C.exec C.code hc ((C.arr (t := 2) (by decide) (by decide)).1 n _) (fun q => by cases q) (by rw [arrV_size]; exact hin) rfl rfl hd fun H1 e1 z oq => ?_
  refine kk p e s m args below meth c C H1 _ cells slots ls (hV.upd hs (fun a ha => funext fun q => by simp [wI, ha]) (fun _ _ => rfl) (fun _ _ => rfl) z oq ?_) (hS.put z oq (Nat.le_add_right _ _)) h1 h2 hl
  show H1[cB G + k]? = some (arrV (cCA G 2) n (fun q => .int ((wI σ k i.toNatClampNeg x).1 k q)))
  rw [e1, arrV_store]
  congr 2
  funext q
  by_cases hq : q = i.toNatClampNeg
  · simp [updV, wI, hq]
    exact congrArg Value.int hx
  · simp [updV, wI, hq]
theorem x_last {y : Int64} (hd : decode (mcd M) pc = .ok (.lastore, 1)) (hs : Γ[k]? = some (3, n)) (hin : vp_in i n) (kk : Wq G M E bc bs (pc + 1) lv ll st Γ (wL σ k i.toNatClampNeg y)) : Wq G M E bc bs pc lv ll (.long y :: .int i :: rf G k :: st) Γ σ := by
  intro p e s m args below meth c C H locs cells slots ls hV hS h1 h2 hl
  have hc : H[cB G + k]? = some (arrV (cCA G 3) n (fun i => .long (σ.2.2 k i))) := hV.2 k _ hs
  refine W.last C.exec C.code hc ((C.arr (t := 3) (by decide) (by decide)).1 n _) (fun q => by cases q) (by rw [arrV_size]; exact hin) rfl rfl hd fun H1 e1 z oq => ?_
  refine kk p e s m args below meth c C H1 _ cells slots ls (hV.upd hs (fun _ _ => rfl) (fun _ _ => rfl) (fun a ha => funext fun q => by simp [wL, ha]) z oq ?_) (hS.put z oq (Nat.le_add_right _ _)) h1 h2 hl
  show H1[cB G + k]? = some (arrV (cCA G 3) n (fun q => .long ((wL σ k i.toNatClampNeg y).2.2 k q)))
  rw [e1, arrV_store]
  congr 2
  funext q
  by_cases hq : q = i.toNatClampNeg <;> simp [updV, wL, hq]
theorem x_aast {k2 ci : Nat} {r : vw_C} (hd : decode (mcd M) pc = .ok (.aastore, 1)) (hs : Γ[k]? = some (t, n)) (ht : 4 ≤ t ∧ t < NTY) (hs2 : Γ[k2]? = some (0, ci)) (hc2 : vwCl[ci]? = some r) (hct : ctyp t = .object r.1) (hin : vp_in i n) (kk : Wq G M E bc bs (pc + 1) lv ll st Γ (wR σ k i.toNatClampNeg (some k2))) : Wq G M E bc bs pc lv ll (rf G k2 :: .int i :: rf G k :: st) Γ σ := by
  intro p e s m args below meth c C H locs cells slots ls hV hS h1 h2 hl
  have hlt : i.toNatClampNeg < n := Nat.not_le.mp fun q => hin (Or.inr q)
  have h0 : ¬ i < 0 := fun q => hin (Or.inl q)
  have ht9 : t < 9 := Nat.lt_of_lt_of_le ht.2 NTY9
  have hc := (cellOK.q ht.1 ht9).mp (hV.2 k _ hs)
  obtain ⟨r', hr', cellV, g1, g2, g3, -⟩ := hV.2 k2 _ hs2
  have hcls := (C.K.1 ci r hc2).2
  have hra := (C.arr (t := t) (by omega) ht.2).2
  rw [hct] at hra
  obtain ⟨kA, comp, k1, k3, k4, -⟩ := hra
  have hcomp : comp = (cD G).1 ci := Option.some.inj (k4.symm.trans hcls.1)
  subst hcomp
  obtain ⟨kC, hkC, -⟩ := hcls.2
  refine W.aast C.exec C.code hc (fun q h => by cases h) (fun h => by cases h) k1 k3 rfl hkC ⟨h0, by rw [arrV_size]; exact hlt⟩ g1 (fun q h => by rw [g3] at h; cases h) (by rw [g2]; exact hkC) (by rw [g2]; exact va_assign hcls) rfl rfl hd fun H1 e1 z oq => ?_
  refine kk p e s m args below meth c C H1 _ cells slots ls (hV.upd hs (fun _ _ => rfl) (fun a ha => funext fun q => by simp [wR, ha]) (fun _ _ => rfl) z oq ((cellOK.q ht.1 ht9).mpr ?_)) (hS.put z oq (Nat.le_add_right _ _)) h1 h2 hl
  rw [e1, arrV_store]
  congr 2
  funext q
  by_cases hq : q = i.toNatClampNeg
  · simp [updV, wR, hq]
    rfl
  · simp [updV, wR, hq]
end Arrays
/-! making cells -/
def zr (σ : Mem) (k : Nat) : Mem := (fun a i => if a = k then 0 else σ.1 a i, fun a i => if a = k then none else σ.2.1 a i, fun a i => if a = k then 0 else σ.2.2 a i)
theorem VH.push {G : Ctx} {Γ : List Sh} {σ : Mem} {H H1 : Heap} {sh : Sh} (hV : VH G Γ σ H) (hz : H1.size = H.size + 1) (ho : ∀ q : Nat, q < H.size → H1[q]? = H[q]?) (hc : cellOK G (fun _ => 0) (fun _ => none) (fun _ => 0) Γ.length sh H1) : VH G (Γ ++ [sh]) (zr σ Γ.length) H1 := by
  refine ⟨by rw [hz, hV.1, List.length_append]; rfl, fun k s hs => ?_⟩
  by_cases e : k = Γ.length
  · subst e
    rw [List.getElem?_append_right (Nat.le_refl _), Nat.sub_self] at hs
    cases hs
    simpa [zr] using hc
  · have hl : k < Γ.length := by
      have := (List.getElem?_eq_some_iff.mp hs).1
      rw [List.length_append] at this
      simp at this
      omega
    rw [List.getElem?_append_left hl] at hs
    have h := (hV.2 k s hs).kept (H1 := H1) (ho _ (by rw [hV.1]; omega))
    simpa [zr, e] using h
theorem va_S.grow {A : Nat → Prop} {H0 H H1 : Heap} {locs : List Loc} (h : va_S A H0 H locs) (z : H1.size = H.size + 1) (o : ∀ q : Nat, q < H.size → H1[q]? = H[q]?) : va_S A H0 H1 locs :=
  ⟨Nat.le_trans h.1 (by omega), fun q h1 h2 => (o q (Nat.lt_of_lt_of_le h1 h.1)).trans (h.2.1 q h1 h2), h.2.2⟩
def EvOK (E : Ev) : Prop := eC E ≤ (eR E).cells ∧ eM E ≤ (eR E).slots
theorem EvOK.m {G : Ctx} {d mc ms : Nat} {Q : Option Value → List Sh → Mem → Prop} : EvOK (Em G d mc ms Q) := ⟨Nat.le_refl _, Nat.le_refl _⟩
section News
variable {G : Ctx} {M : Mth} {E : Ev} {bc bs pc idx ci N t : Nat} {lv : List (Option Value)} {ll : List (Nat × Int64)} {st : List Value} {Γ : List Sh} {σ : Mem}
theorem x_new {Cn : String} {T : u_T} (hd : decode (mcd M) pc = .ok (.new idx, 3)) (hK : KC ci Cn T N) (hl : gd (.classLink (my M).cls idx Cn)) (hi : gd (.instantiable Cn N)) (hn : gd (.initialized Cn)) (hdf : ∀ j, j < N → defaultValue (tyOf ci j) = fval G (fun _ => 0) (fun _ => none) (fun _ => 0) j (tyOf ci j)) (hE : EvOK E)
    (kk : Wq G M E bc bs (pc + 3) lv ll (rf G Γ.length :: st) (Γ ++ [(0, ci)]) (zr σ Γ.length)) : Wq G M E (bc + 1) (bs + N) pc lv ll st Γ σ := by
  intro p e s m args below meth c C H locs cells slots ls hV hS h1 h2 hlv
  obtain ⟨hc, hw, hty, hnm⟩ := hK
  have hts : ∀ w ∈ u_ws Cn T N, w.before args s = true := fun w h => C.wd (hw w h).1 (hw w h).2
  have hKn := C.K.1 ci _ hc
  refine W.newcK C.exec C.code C.own (C.g hl) (C.g hi) (C.g hn) rfl hd (by have := hE.1; omega) (by have := hE.2; omega) hKn.2.1 rfl fun H1 kC hkC e1 z1 o1 => ?_
  have e2 := u_born (tyOf ci) hts (fun _ h => h) hKn hkC e1 hty
  rw [hV.1] at e2
  have k2 := kk p e s m args below meth c C H1 locs (cells + 1) (slots + N) ls (hV.push z1 o1 ⟨_, hc, e2.to hdf⟩) (hS.grow z1 o1) (by omega) (by omega) hlv
  unfold rf at k2
  rw [← hV.1] at k2
  exact k2
theorem x_newa {atype : ArrayType} {n : Int32} (hd : decode (mcd M) pc = .ok (.newarray atype, 2)) (hty : newarray.typeOf atype = ctyp t) (ht : 1 ≤ t ∧ t < 4) (hg : gd (.arrayClass (newarray.typeOf atype))) (hn : ¬ n < 0) (hN : n.toNatClampNeg = N) (hb : N * componentBytes (newarray.typeOf atype) ≤ 536870912) (hE : EvOK E)
    (kk : Wq G M E bc bs (pc + 2) lv ll (rf G Γ.length :: st) (Γ ++ [(t, N)]) (zr σ Γ.length)) : Wq G M E (bc + 1) (bs + N) pc lv ll (.int n :: st) Γ σ := by
  intro p e s m args below meth c C H locs cells slots ls hV hS h1 h2 hlv
  refine va_newaK C.exec C.code (C.g hg) rfl hd rfl hn hN hb (by have := hE.1; omega) (by have := hE.2; omega) rfl fun H1 cA e1 z1 o1 hAr hNm => ?_
  have hcA : cA = cCA G t := by
    have h9 := (C.arr ht.1 (Nat.lt_of_lt_of_le ht.2 NTY4)).2
    rw [← hty] at h9
    have h8 : s.vm.findClass ("[" ++ (newarray.typeOf atype).toString) = some (cCA G t) := by cases atype <;> exact h9
    exact Option.some.inj (hNm.symm.trans h8)
  subst hcA
  rw [hV.1] at e1
  have k2 := kk p e s m args below meth c C H1 locs (cells + 1) (slots + N) ls (hV.push z1 o1 (by
    rw [hty] at e1
    match t, ht with
    | 1, _ => exact e1
    | 2, _ => exact e1
    | 3, _ => exact e1)) (hS.grow z1 o1) (by omega) (by omega) hlv
  unfold rf at k2
  rw [← hV.1] at k2
  exact k2
theorem x_anew {Cn : String} {n : Int32} (hd : decode (mcd M) pc = .ok (.anewarray idx, 3)) (hl : gd (.classLink (my M).cls idx Cn)) (hct : ctyp t = .object Cn) (ht : 4 ≤ t ∧ t < NTY) (ho : Cond.arrayOver (.object Cn) ∈ lw_tbl) (hn : ¬ n < 0) (hN : n.toNatClampNeg = N) (hb : N * 4 ≤ 536870912) (hE : EvOK E)
    (kk : Wq G M E bc bs (pc + 3) lv ll (rf G Γ.length :: st) (Γ ++ [(t, N)]) (zr σ Γ.length)) : Wq G M E (bc + 1) (bs + N) pc lv ll (.int n :: st) Γ σ := by
  intro p e s m args below meth c C H locs cells slots ls hV hS h1 h2 hlv
  subst hN
  refine W.anew C.exec C.code C.own (C.g hl) (va_AO.use (va_AO.moved C.warm.alike (va_AO.of (C.ok.1 _ ho)))) rfl hd rfl hn hb (by have := hE.1; omega) (by have := hE.2; omega) fun cA kA comp f1 f2 f3 f4 => ?_
  have hcA : cA = cCA G t := by
    have h9 := (C.arr (t := t) (by omega) ht.2).2
    rw [hct] at h9
    obtain ⟨_, _, -, -, -, h8⟩ := h9
    exact Option.some.inj (f1.symm.trans h8)
  subst hcA
  have z1 : (H.push ({ cls := cCA G t, slots := Array.replicate n.toNatClampNeg .null, vm := .none } : Cell)).size = H.size + 1 := by simp
  have o1 : ∀ q : Nat, q < H.size → (H.push ({ cls := cCA G t, slots := Array.replicate n.toNatClampNeg .null, vm := .none } : Cell))[q]? = H[q]? := fun q hq => by rw [Array.getElem?_push, if_neg (Nat.ne_of_lt hq)]
  have k2 := kk p e s m args below meth c C _ locs (cells + 1) (slots + n.toNatClampNeg) ls (hV.push z1 o1 ((cellOK.q ht.1 (Nat.lt_of_lt_of_le ht.2 NTY9)).mpr (by
    rw [← hV.1, arrV_new]
    simp
    rfl))) (hS.grow z1 o1) (by omega) (by omega) hlv
  unfold rf at k2
  rw [← hV.1] at k2
  exact k2
end News
end
section
/-! calls of nest mates' private methods, inherited and overriding methods -/
section Calls2
variable {G : Ctx} {M M' : Mth} {E : Ev} {d mc ms bc bs pc idx n k ci : Nat} {lv : List (Option Value)} {ll : List (Nat × Int64)} {st as : List Value} {Γ : List Sh} {σ : Mem}
theorem cn_of {p : Program} {s : State} {m : MethodId} {args : Array Value} {meth : Method} {c : Code} {host : String} (C : Cx G M p s m meth c) (hL : LK M' n) (hR : RoomE E d) (hl : Cond.methodLinkNest (my M).cls idx (my M') host ∈ lw_tbl) : va_CN (eR E) s args (my M).cls idx (my M') host (mcd M') (mL M') (mrt M') (mws M') (RM d mc ms) mc ms n := by
  obtain ⟨c1, c2, c3, c4, c5, c6⟩ := hL
  refine ⟨⟨rfl, rfl, hR.1, ?_, ?_, by rw [c5]; exact List.mem_cons_self⟩, C.g c1, C.g c2, c3, len_of c4, va_Nw.use rfl (va_Nw.warmM C.warm (va_Nw.of rfl (C.ok.1 _ hl)))⟩
  · have := hR.2.1
    show 8 + (mL M' + 11) + 40 * d ≤ (eR E).locals
    omega
  · rw [c5]
    intro w hw
    rw [List.mem_singleton.mp hw]
    exact C.gw c1
theorem x_callVNg {r : vw_C} {host : String} (hd : decode (mcd M) pc = .ok (.invokevirtual idx, 3)) (hL : LK M' n) (hl : Cond.methodLinkNest (my M).cls idx (my M') host ∈ lw_tbl) (hi : gd (.instanceMethod (my M'))) (hc : vwCl[ci]? = some r) (hsel : gd (.selects r.1 (my M') (my M'))) (hs : Γ[k]? = some (0, ci)) (hn : as.length = n) (hR : RoomE E d) (hcat : (st.map fun v => v.category).sum ≤ 8)
    (hC : Ct G M' d mc ms (rf G k :: as) Γ σ (fun r Γ' σ' => Wq G M E bc bs (pc + 3) lv ll (r.toList ++ st) Γ' σ')) : Wq G M E (bc + mc) (bs + ms) pc lv ll (as.reverse ++ rf G k :: st) Γ σ := by
  intro p e s m args below meth c C H locs cells slots ls hV hS h1 h2 hlv
  refine go_run C hS h1 h2 hlv (va_runVN (Ts := []) (n := n) (b := cB G + k) (As := as) (rest := st) ⟨C.exec, C.code, C.maxL, C.own, fun w h => by cases h⟩ (hC C.ok) ⟨cn_of C hL hR hl, C.g hi, C.g hsel⟩ ⟨Pcc.blind, rcv_of C hV hc hs, pre_of C hV hS⟩ rfl hn hlv.1.1 rfl (lv_room hcat) hd ⟨?_, ?_⟩) (fun _ _ _ h => h)
  · have := hR.2.2.1; omega
  · have := hR.2.2.2; omega
theorem x_callSNg {host : String} (hd : decode (mcd M) pc = .ok (.invokestatic idx, 3)) (hL : LK M' n) (hl : Cond.methodLinkNest (my M).cls idx (my M') host ∈ lw_tbl) (hi : gd (.static (my M'))) (hn : as.length = n) (hR : RoomE E d) (hcat : (st.map fun v => v.category).sum ≤ 8)
    (hC : Ct G M' d mc ms as Γ σ (fun r Γ' σ' => Wq G M E bc bs (pc + 3) lv ll (r.toList ++ st) Γ' σ')) : Wq G M E (bc + mc) (bs + ms) pc lv ll (as.reverse ++ st) Γ σ := by
  intro p e s m args below meth c C H locs cells slots ls hV hS h1 h2 hlv
  refine go_run C hS h1 h2 hlv (va_runSN (Ts := []) (n := n) (As := as) (rest := st) ⟨C.exec, C.code, C.maxL, C.own, fun w h => by cases h⟩ (hC C.ok) ⟨cn_of C hL hR hl, C.g hi, trivial⟩ ⟨Pcc.blind, pre_of C hV hS⟩ rfl hn hlv.1.1 rfl (lv_room hcat) hd ⟨?_, ?_⟩) (fun _ _ _ h => h)
  · have := hR.2.2.1; omega
  · have := hR.2.2.2; omega
/-- a call that names x and lands in M' for the receiver's class: inherited, or of an abstract or overridden method -/
theorem x_callUg {r : vw_C} {x : MethodName} {owner : String} (hd : decode (mcd M) pc = .ok (.invokevirtual idx, 3)) (hL : LK M' n) (hl : gd (.methodLink (my M).cls idx x)) (hsm : gd (.sameMethod x.cls owner x.name x.desc)) (ho : owner ≠ "java/lang/invoke/MethodHandle" ∧ owner ≠ "java/lang/invoke/VarHandle") (hxn : (parseMethodDescriptor x.desc).map (fun d => d.parameters.length) = some n)
    (hdc : Cond.declares ⟨owner, x.name, x.desc⟩ ∈ lw_tbl ∨ ∃ b0 m0 r0, gd (.instanceMethod ⟨owner, x.name, x.desc⟩) ∧ gd (.code ⟨owner, x.name, x.desc⟩ b0 m0 r0)) (hi : gd (.instanceMethod (my M'))) (hc : vwCl[ci]? = some r) (hsel : gd (.selects r.1 x (my M'))) (hs : Γ[k]? = some (0, ci)) (hn : as.length = n) (hR : RoomE E d) (hcat : (st.map fun v => v.category).sum ≤ 8)
    (hC : Ct G M' d mc ms (rf G k :: as) Γ σ (fun r Γ' σ' => Wq G M E bc bs (pc + 3) lv ll (r.toList ++ st) Γ' σ')) : Wq G M E (bc + mc) (bs + ms) pc lv ll (as.reverse ++ rf G k :: st) Γ σ := by
  intro p e s m args below meth c C H locs cells slots ls hV hS h1 h2 hlv
  obtain ⟨c1, c2, c3, c4, c5, c6⟩ := hL
  have hdc' : va_Decl s ⟨owner, x.name, x.desc⟩ := by
    rcases hdc with h | ⟨b0, m0, r0, g1, g2⟩
    · exact va_Decl.abs (va_Nw.warmD C.warm (va_Nw.of rfl (C.ok.1 _ h)))
    · exact va_Decl.of (args := #[]) (C.g g1) (C.g g2)
  have cw : va_CU (eR E) s args (my M).cls r.1 owner idx x (my M') (mcd M') (mL M') (mrt M') (mws M') (RM d mc ms) mc ms n := by
    refine ⟨⟨rfl, rfl, hR.1, ?_, ?_, by rw [c5]; exact List.mem_cons_self⟩, C.g c1, C.g c2, ho, len_of hxn, C.g hl, C.g hsm, hdc', C.g hsel, C.g hi⟩
    · have := hR.2.1
      show 8 + (mL M' + 11) + 40 * d ≤ (eR E).locals
      omega
    · rw [c5]
      intro w hw
      rw [List.mem_singleton.mp hw]
      exact C.gw c1
  refine go_run C hS h1 h2 hlv (va_runU (Ts := []) (n := n) (b := cB G + k) (As := as) (rest := st) ⟨C.exec, C.code, C.maxL, C.own, fun w h => by cases h⟩ (hC C.ok) cw ⟨Pcc.blind, rcv_of C hV hc hs, pre_of C hV hS⟩ rfl hn hlv.1.1 rfl (lv_room hcat) hd ⟨?_, ?_⟩) (fun _ _ _ h => h)
  · have := hR.2.2.1; omega
  · have := hR.2.2.2; omega
end Calls2
/-! Object.<init>, Math, System.arraycopy -/
section Lib0
variable {G : Ctx} {M : Mth} {E : Ev} {bc bs pc idx k k2 n n2 : Nat} {lv : List (Option Value)} {ll : List (Nat × Int64)} {st : List Value} {Γ : List Sh} {σ : Mem} {x y : Int32}
def RoomL (E : Ev) : Prop := 1 ≤ (eR E).frames ∧ 40 ≤ (eR E).locals ∧ eC E ≤ (eR E).cells ∧ eM E ≤ (eR E).slots
theorem RoomL.m {d mc ms : Nat} {Q : Option Value → List Sh → Mem → Prop} : RoomL (Em G (d + 1) mc ms Q) := by
  refine ⟨?_, ?_, Nat.le_refl _, Nat.le_refl _⟩
  · show 1 ≤ d + 1; omega
  · show 40 ≤ 40 * (d + 1); omega
theorem x_objInit (hd : decode (mcd M) pc = .ok (.invokespecial idx, 3)) (hl : gd (.methodLink (my M).cls idx Lib.objectInit)) (hi : gd (.instanceMethod Lib.objectInit)) (hc : gd (.code Lib.objectInit ⟨#[0xb1]⟩ 1 none)) (hR : RoomL E) (hcat : (st.map fun v => v.category).sum ≤ 8) (kk : Wq G M E bc bs (pc + 3) lv ll st Γ σ) : Wq G M E bc bs pc lv ll (rf G k :: st) Γ σ := by
  intro p e s m args below meth c C H locs cells slots ls hV hS h1 h2 hlv
  have hr := hR.1
  have hr2 := hR.2.1
  exact W.objInit C.exec C.code C.own (C.g hl) (C.g hi) (C.g hc) rfl (hlv.1.1.trans C.maxL.symm) rfl hd (by omega) (by show 2 * 0 + _ + 12 ≤ _; omega) (kk p e s m args below meth c C H locs cells slots ls hV hS h1 h2 hlv)
theorem x_mmax (hd : decode (mcd M) pc = .ok (.invokestatic idx, 3)) (hl : gd (.methodLink (my M).cls idx Lib.Math.max.name)) (hs : gd (.static Lib.Math.max.name)) (hi : gd (.initialized "java/lang/Math")) (hc : gd (.code Lib.Math.max.name Lib.Math.max.code 2 (some .int))) (hR : RoomL E) (hcat : (st.map fun v => v.category).sum ≤ 8) (kk : Wq G M E bc bs (pc + 3) lv ll (.int (if x < y then y else x) :: st) Γ σ) : Wq G M E bc bs pc lv ll (.int y :: .int x :: st) Γ σ := by
  intro p e s m args below meth c C H locs cells slots ls hV hS h1 h2 hlv
  obtain ⟨r1, r2, r3, r4⟩ := hR
  exact va_mmax C.exec C.code (C.maxL.trans hlv.1.1.symm) C.own (C.g hl) (C.g hs) (C.g hi) (C.g hc) (by omega) (by omega) (by omega) (by omega) hd (kk p e s m args below meth c C H locs cells slots ls hV hS h1 h2 hlv)
theorem x_mmin (hd : decode (mcd M) pc = .ok (.invokestatic idx, 3)) (hl : gd (.methodLink (my M).cls idx Lib.Math.min.name)) (hs : gd (.static Lib.Math.min.name)) (hi : gd (.initialized "java/lang/Math")) (hc : gd (.code Lib.Math.min.name Lib.Math.min.code 2 (some .int))) (hR : RoomL E) (hcat : (st.map fun v => v.category).sum ≤ 8) (kk : Wq G M E bc bs (pc + 3) lv ll (.int (if y < x then y else x) :: st) Γ σ) : Wq G M E bc bs pc lv ll (.int y :: .int x :: st) Γ σ := by
  intro p e s m args below meth c C H locs cells slots ls hV hS h1 h2 hlv
  obtain ⟨r1, r2, r3, r4⟩ := hR
  exact va_mmin C.exec C.code (C.maxL.trans hlv.1.1.symm) C.own (C.g hl) (C.g hs) (C.g hi) (C.g hc) (by omega) (by omega) (by omega) (by omega) hd (kk p e s m args below meth c C H locs cells slots ls hV hS h1 h2 hlv)
def wC (σ : Mem) (a : Nat) (f : Nat → Int32) : Mem := (fun k i => if k = a then f i else σ.1 k i, σ.2)
theorem x_copyi {sp dp z : Int32} (hd : decode (mcd M) pc = .ok (.invokestatic idx, 3)) (hl : gd (.methodLink (my M).cls idx arraycopyName)) (hnat : gd (.native arraycopyName)) (hstt : gd (.static arraycopyName)) (hi : gd (.initialized "java/lang/System")) (hs : Γ[k]? = some (1, n)) (hs2 : Γ[k2]? = some (1, n2)) (g1 : ¬ sp < 0) (g2 : ¬ dp < 0) (g3 : ¬ z < 0) (g4 : sp.toNatClampNeg + z.toNatClampNeg ≤ n) (g5 : dp.toNatClampNeg + z.toNatClampNeg ≤ n2) (hR : RoomL E) (hcat : (st.map fun v => v.category).sum ≤ 8)
    (kk : Wq G M E bc bs (pc + 3) lv ll st Γ (wC σ k2 (va_cpy (σ.1 k) (σ.1 k2) sp.toNatClampNeg dp.toNatClampNeg z.toNatClampNeg))) : Wq G M E bc bs pc lv ll (.int z :: .int dp :: rf G k2 :: .int sp :: rf G k :: st) Γ σ := by
  intro p e s m args below meth c C H locs cells slots ls hV hS h1 h2 hlv
  obtain ⟨r1, r2, r3, r4⟩ := hR
  have nn : ∀ z : Int32, ¬ z < 0 → z.toInt = (z.toNatClampNeg : Int) := by
    intro z hz
    have hz0 : (0 : Int) ≤ z.toInt := by
      have := Int32.not_lt.mp hz
      simpa using Int32.le_iff_toInt_le.mp this
    show z.toInt = ((z.toInt.toNat : Nat) : Int)
    omega
  intro T hT X
  have hc0 : H[cB G + k]? = some (arrV (cCA G 1) n (fun i => .int (σ.1 k i))) := hV.2 k _ hs
  have hc1 : H[cB G + k2]? = some (arrV (cCA G 1) n2 (fun i => .int (σ.1 k2 i))) := hV.2 k2 _ hs2
  have hA := (C.arr (t := 1) (by decide) (by decide)).1
  obtain ⟨-, k0, hk0, cm0, hkk0⟩ := hA n (fun j => .int (σ.1 k j))
  obtain ⟨-, k1, hk1, cm1, hkk1⟩ := hA n2 (fun j => .int (σ.1 k2 j))
  have hnw : nativeFrameWords "java/lang/System" "arraycopy" 5 ≤ 21 := by decide +kernel
  obtain ⟨vm', X', step⟩ := X.arraycopy C.exec C.own (C.g hl) (C.g hnat) (C.g hstt) (C.g hi) (src := cB G + k) (dst := cB G + k2) (cs := arrV (cCA G 1) n (fun i => .int (σ.1 k i))) (cd := arrV (cCA G 1) n2 (fun i => .int (σ.1 k2 i))) (srcPos := sp) (destPos := dp) (n := z) (by rw [hT]; exact hc0) (by rw [hT]; exact hc1)
    (fun _ h => by cases h) (fun _ h => by cases h) (fun h => by cases h) (fun h => by cases h) hk0 hk1 hkk0 hkk1 (by simp [ctyp, refKind]) g1 g2 g3
    (by rw [nn sp g1, nn z g3, arrV_size]; omega)
    (by rw [nn dp g2, nn z g3, arrV_size]; omega)
    (fun vm₁ _ i hi => by
      have e : (arrV (cCA G 1) n (fun i => Value.int (σ.1 k i))).slots.getD (sp.toNatClampNeg + i) .null = .int (σ.1 k (sp.toNatClampNeg + i)) := by
        rw [Array.getD_eq_getD_getElem?, arrV_read _ _ (by omega)]
        rfl
      refine ⟨?_, ?_⟩
      · rw [e]; rfl
      · rw [e]; exact trivial)
    (g := F0 m pc ls (.int z :: .int dp :: rf G k2 :: .int sp :: rf G k :: st)) rfl (by rw [C.maxL]; exact hlv.1.1) (rest := st) rfl (by rw [C.code]; exact hd) (by omega) (by show 2 * 0 + _ + _ ≤ _; omega)
  have e1 : copied (arrV (cCA G 1) n (fun i => .int (σ.1 k i))) (arrV (cCA G 1) n2 (fun i => .int (σ.1 k2 i))) sp dp z = arrV (cCA G 1) n2 (fun i => .int (va_cpy (σ.1 k) (σ.1 k2) sp.toNatClampNeg dp.toNatClampNeg z.toNatClampNeg i)) := va_copied (fun z => .int z) _ _ (σ.1 k) (σ.1 k2) g4
  rw [e1] at X' step
  have hlt : cB G + k2 < H.size := (Array.getElem?_eq_some_iff.mp hc1).1
  have oq : ∀ q : Nat, q ≠ cB G + k2 → (H.setIfInBounds (cB G + k2) (arrV (cCA G 1) n2 (fun i => .int (va_cpy (σ.1 k) (σ.1 k2) sp.toNatClampNeg dp.toNatClampNeg z.toNatClampNeg i))))[q]? = H[q]? := fun q hq => by simp [Array.getElem?_setIfInBounds, Ne.symm hq]
  have hheap : ((T.setVm vm').setCell (cB G + k2) (arrV (cCA G 1) n2 (fun i => .int (va_cpy (σ.1 k) (σ.1 k2) sp.toNatClampNeg dp.toNatClampNeg z.toNatClampNeg i)))).heap = H.setIfInBounds (cB G + k2) (arrV (cCA G 1) n2 (fun i => .int (va_cpy (σ.1 k) (σ.1 k2) sp.toNatClampNeg dp.toNatClampNeg z.toNatClampNeg i))) := by rw [← hT]; rfl
  obtain ⟨t, a1, b1⟩ := kk p e s m args below meth c C _ _ cells slots ls (hV.upd hs2 (fun a ha => funext fun q => by simp [wC, ha]) (fun _ _ => rfl) (fun _ _ => rfl) (by simp) oq (by
      show (H.setIfInBounds _ _)[cB G + k2]? = some (arrV (cCA G 1) n2 (fun i => .int ((wC σ k2 (va_cpy (σ.1 k) (σ.1 k2) sp.toNatClampNeg dp.toNatClampNeg z.toNatClampNeg)).1 k2 i)))
      simp [Array.getElem?_setIfInBounds, hlt, wC])) ⟨by simp; exact hS.1, fun q g1 g2 => by
      rw [oq q (fun e => g2 (by rw [e]; exact Nat.le_add_right _ _))]
      exact hS.2.1 q g1 g2, fun q hq => by
      rcases List.mem_append.mp hq with h | h
      · exact hS.2.2 q h
      · obtain ⟨z, -, hz⟩ := List.mem_map.mp h
        rw [← hz]
        exact Nat.le_add_right _ _⟩ h1 h2 hlv _ hheap X'
  exact ⟨t, step t a1, b1⟩
end Lib0
end
