theorem d_SourceProgram_init_0 : decode (mcd M_SourceProgram_init) 0 = .ok (.aload_n 0, 1) := by decide +kernel
theorem d_SourceProgram_init_1 : decode (mcd M_SourceProgram_init) 1 = .ok (.aload_n 1, 1) := by decide +kernel
theorem d_SourceProgram_init_2 : decode (mcd M_SourceProgram_init) 2 = .ok (.aload_n 2, 1) := by decide +kernel
theorem d_SourceProgram_init_3 : decode (mcd M_SourceProgram_init) 3 = .ok (.invokespecial 3, 3) := by decide +kernel
theorem d_SourceProgram_init_6 : decode (mcd M_SourceProgram_init) 6 = .ok (.aload_n 0, 1) := by decide +kernel
theorem d_SourceProgram_init_7 : decode (mcd M_SourceProgram_init) 7 = .ok (.bipush 48, 2) := by decide +kernel
theorem d_SourceProgram_init_9 : decode (mcd M_SourceProgram_init) 9 = .ok (.anewarray 9, 3) := by decide +kernel
theorem d_SourceProgram_init_12 : decode (mcd M_SourceProgram_init) 12 = .ok (.putfield 11, 3) := by decide +kernel
theorem d_SourceProgram_init_15 : decode (mcd M_SourceProgram_init) 15 = .ok (.iconst 0, 1) := by decide +kernel
theorem d_SourceProgram_init_16 : decode (mcd M_SourceProgram_init) 16 = .ok (.istore_n 3, 1) := by decide +kernel
theorem d_SourceProgram_init_17 : decode (mcd M_SourceProgram_init) 17 = .ok (.iload_n 3, 1) := by decide +kernel
theorem d_SourceProgram_init_18 : decode (mcd M_SourceProgram_init) 18 = .ok (.aload_n 0, 1) := by decide +kernel
theorem d_SourceProgram_init_19 : decode (mcd M_SourceProgram_init) 19 = .ok (.getfield 11, 3) := by decide +kernel
theorem d_SourceProgram_init_22 : decode (mcd M_SourceProgram_init) 22 = .ok (.arraylength, 1) := by decide +kernel
theorem d_SourceProgram_init_23 : decode (mcd M_SourceProgram_init) 23 = .ok (.if_icmp .ge 24, 3) := by decide +kernel
theorem d_SourceProgram_init_26 : decode (mcd M_SourceProgram_init) 26 = .ok (.aload_n 0, 1) := by decide +kernel
theorem d_SourceProgram_init_27 : decode (mcd M_SourceProgram_init) 27 = .ok (.getfield 11, 3) := by decide +kernel
theorem d_SourceProgram_init_30 : decode (mcd M_SourceProgram_init) 30 = .ok (.iload_n 3, 1) := by decide +kernel
theorem d_SourceProgram_init_31 : decode (mcd M_SourceProgram_init) 31 = .ok (.new 9, 3) := by decide +kernel
theorem d_SourceProgram_init_34 : decode (mcd M_SourceProgram_init) 34 = .ok (.dup, 1) := by decide +kernel
theorem d_SourceProgram_init_35 : decode (mcd M_SourceProgram_init) 35 = .ok (.bipush 24, 2) := by decide +kernel
theorem d_SourceProgram_init_37 : decode (mcd M_SourceProgram_init) 37 = .ok (.invokespecial 17, 3) := by decide +kernel
theorem d_SourceProgram_init_40 : decode (mcd M_SourceProgram_init) 40 = .ok (.aastore, 1) := by decide +kernel
theorem d_SourceProgram_init_41 : decode (mcd M_SourceProgram_init) 41 = .ok (.iinc 3 1, 3) := by decide +kernel
theorem d_SourceProgram_init_44 : decode (mcd M_SourceProgram_init) 44 = .ok (.goto (-27), 3) := by decide +kernel
theorem d_SourceProgram_init_47 : decode (mcd M_SourceProgram_init) 47 = .ok (.return_, 1) := by decide +kernel
theorem d_SourceProgram_bodyOf_0 : decode (mcd M_SourceProgram_bodyOf) 0 = .ok (.aload_n 0, 1) := by decide +kernel
theorem d_SourceProgram_bodyOf_1 : decode (mcd M_SourceProgram_bodyOf) 1 = .ok (.iload_n 1, 1) := by decide +kernel
theorem d_SourceProgram_bodyOf_2 : decode (mcd M_SourceProgram_bodyOf) 2 = .ok (.iload_n 2, 1) := by decide +kernel
theorem d_SourceProgram_bodyOf_3 : decode (mcd M_SourceProgram_bodyOf) 3 = .ok (.invokevirtual 59, 3) := by decide +kernel
theorem d_SourceProgram_bodyOf_6 : decode (mcd M_SourceProgram_bodyOf) 6 = .ok (.astore_n 3, 1) := by decide +kernel
theorem d_SourceProgram_bodyOf_7 : decode (mcd M_SourceProgram_bodyOf) 7 = .ok (.aload_n 3, 1) := by decide +kernel
theorem d_SourceProgram_bodyOf_8 : decode (mcd M_SourceProgram_bodyOf) 8 = .ok (.ifnull 10, 3) := by decide +kernel
theorem d_SourceProgram_bodyOf_11 : decode (mcd M_SourceProgram_bodyOf) 11 = .ok (.aload_n 3, 1) := by decide +kernel
theorem d_SourceProgram_bodyOf_12 : decode (mcd M_SourceProgram_bodyOf) 12 = .ok (.invokevirtual 67, 3) := by decide +kernel
theorem d_SourceProgram_bodyOf_15 : decode (mcd M_SourceProgram_bodyOf) 15 = .ok (.ifCond .eq 7, 3) := by decide +kernel
theorem d_SourceProgram_bodyOf_18 : decode (mcd M_SourceProgram_bodyOf) 18 = .ok (.aconst_null, 1) := by decide +kernel
theorem d_SourceProgram_bodyOf_19 : decode (mcd M_SourceProgram_bodyOf) 19 = .ok (.goto 4, 3) := by decide +kernel
theorem d_SourceProgram_bodyOf_22 : decode (mcd M_SourceProgram_bodyOf) 22 = .ok (.aload_n 3, 1) := by decide +kernel
theorem d_SourceProgram_bodyOf_23 : decode (mcd M_SourceProgram_bodyOf) 23 = .ok (.areturn, 1) := by decide +kernel
theorem d_SourceProgram_clear_0 : decode (mcd M_SourceProgram_clear) 0 = .ok (.iconst 0, 1) := by decide +kernel
theorem d_SourceProgram_clear_1 : decode (mcd M_SourceProgram_clear) 1 = .ok (.istore_n 1, 1) := by decide +kernel
theorem d_SourceProgram_clear_2 : decode (mcd M_SourceProgram_clear) 2 = .ok (.iload_n 1, 1) := by decide +kernel
theorem d_SourceProgram_clear_3 : decode (mcd M_SourceProgram_clear) 3 = .ok (.bipush 8, 2) := by decide +kernel
theorem d_SourceProgram_clear_5 : decode (mcd M_SourceProgram_clear) 5 = .ok (.if_icmp .ge 23, 3) := by decide +kernel
theorem d_SourceProgram_clear_8 : decode (mcd M_SourceProgram_clear) 8 = .ok (.aload_n 0, 1) := by decide +kernel
theorem d_SourceProgram_clear_9 : decode (mcd M_SourceProgram_clear) 9 = .ok (.getfield 20, 3) := by decide +kernel
theorem d_SourceProgram_clear_12 : decode (mcd M_SourceProgram_clear) 12 = .ok (.sipush 200, 3) := by decide +kernel
theorem d_SourceProgram_clear_15 : decode (mcd M_SourceProgram_clear) 15 = .ok (.iload_n 1, 1) := by decide +kernel
theorem d_SourceProgram_clear_16 : decode (mcd M_SourceProgram_clear) 16 = .ok (.iadd, 1) := by decide +kernel
theorem d_SourceProgram_clear_17 : decode (mcd M_SourceProgram_clear) 17 = .ok (.iconst 0, 1) := by decide +kernel
theorem d_SourceProgram_clear_18 : decode (mcd M_SourceProgram_clear) 18 = .ok (.iconst 0, 1) := by decide +kernel
theorem d_SourceProgram_clear_19 : decode (mcd M_SourceProgram_clear) 19 = .ok (.invokevirtual 24, 3) := by decide +kernel
theorem d_SourceProgram_clear_22 : decode (mcd M_SourceProgram_clear) 22 = .ok (.iinc 1 1, 3) := by decide +kernel
theorem d_SourceProgram_clear_25 : decode (mcd M_SourceProgram_clear) 25 = .ok (.goto (-23), 3) := by decide +kernel
theorem d_SourceProgram_clear_28 : decode (mcd M_SourceProgram_clear) 28 = .ok (.iconst 0, 1) := by decide +kernel
theorem d_SourceProgram_clear_29 : decode (mcd M_SourceProgram_clear) 29 = .ok (.istore_n 1, 1) := by decide +kernel
theorem d_SourceProgram_clear_30 : decode (mcd M_SourceProgram_clear) 30 = .ok (.iload_n 1, 1) := by decide +kernel
theorem d_SourceProgram_clear_31 : decode (mcd M_SourceProgram_clear) 31 = .ok (.aload_n 0, 1) := by decide +kernel
theorem d_SourceProgram_clear_32 : decode (mcd M_SourceProgram_clear) 32 = .ok (.getfield 11, 3) := by decide +kernel
theorem d_SourceProgram_clear_35 : decode (mcd M_SourceProgram_clear) 35 = .ok (.arraylength, 1) := by decide +kernel
theorem d_SourceProgram_clear_36 : decode (mcd M_SourceProgram_clear) 36 = .ok (.if_icmp .ge 18, 3) := by decide +kernel
theorem d_SourceProgram_clear_39 : decode (mcd M_SourceProgram_clear) 39 = .ok (.aload_n 0, 1) := by decide +kernel
theorem d_SourceProgram_clear_40 : decode (mcd M_SourceProgram_clear) 40 = .ok (.getfield 11, 3) := by decide +kernel
theorem d_SourceProgram_clear_43 : decode (mcd M_SourceProgram_clear) 43 = .ok (.iload_n 1, 1) := by decide +kernel
theorem d_SourceProgram_clear_44 : decode (mcd M_SourceProgram_clear) 44 = .ok (.aaload, 1) := by decide +kernel
theorem d_SourceProgram_clear_45 : decode (mcd M_SourceProgram_clear) 45 = .ok (.invokevirtual 30, 3) := by decide +kernel
theorem d_SourceProgram_clear_48 : decode (mcd M_SourceProgram_clear) 48 = .ok (.iinc 1 1, 3) := by decide +kernel
theorem d_SourceProgram_clear_51 : decode (mcd M_SourceProgram_clear) 51 = .ok (.goto (-21), 3) := by decide +kernel
theorem d_SourceProgram_clear_54 : decode (mcd M_SourceProgram_clear) 54 = .ok (.return_, 1) := by decide +kernel
theorem d_SourceProgram_declare_0 : decode (mcd M_SourceProgram_declare) 0 = .ok (.aload_n 0, 1) := by decide +kernel
theorem d_SourceProgram_declare_1 : decode (mcd M_SourceProgram_declare) 1 = .ok (.getfield 20, 3) := by decide +kernel
theorem d_SourceProgram_declare_4 : decode (mcd M_SourceProgram_declare) 4 = .ok (.sipush 200, 3) := by decide +kernel
theorem d_SourceProgram_declare_7 : decode (mcd M_SourceProgram_declare) 7 = .ok (.iload_n 1, 1) := by decide +kernel
theorem d_SourceProgram_declare_8 : decode (mcd M_SourceProgram_declare) 8 = .ok (.iadd, 1) := by decide +kernel
theorem d_SourceProgram_declare_9 : decode (mcd M_SourceProgram_declare) 9 = .ok (.iload_n 2, 1) := by decide +kernel
theorem d_SourceProgram_declare_10 : decode (mcd M_SourceProgram_declare) 10 = .ok (.iload_n 3, 1) := by decide +kernel
theorem d_SourceProgram_declare_11 : decode (mcd M_SourceProgram_declare) 11 = .ok (.invokevirtual 24, 3) := by decide +kernel
theorem d_SourceProgram_declare_14 : decode (mcd M_SourceProgram_declare) 14 = .ok (.return_, 1) := by decide +kernel
theorem d_SourceProgram_define_0 : decode (mcd M_SourceProgram_define) 0 = .ok (.aload_n 0, 1) := by decide +kernel
theorem d_SourceProgram_define_1 : decode (mcd M_SourceProgram_define) 1 = .ok (.sipush 200, 3) := by decide +kernel
theorem d_SourceProgram_define_4 : decode (mcd M_SourceProgram_define) 4 = .ok (.iload_n 1, 1) := by decide +kernel
theorem d_SourceProgram_define_5 : decode (mcd M_SourceProgram_define) 5 = .ok (.iadd, 1) := by decide +kernel
theorem d_SourceProgram_define_6 : decode (mcd M_SourceProgram_define) 6 = .ok (.iload_n 2, 1) := by decide +kernel
theorem d_SourceProgram_define_7 : decode (mcd M_SourceProgram_define) 7 = .ok (.invokevirtual 59, 3) := by decide +kernel
theorem d_SourceProgram_define_10 : decode (mcd M_SourceProgram_define) 10 = .ok (.astore 4, 2) := by decide +kernel
theorem d_SourceProgram_define_12 : decode (mcd M_SourceProgram_define) 12 = .ok (.aload 4, 2) := by decide +kernel
theorem d_SourceProgram_define_14 : decode (mcd M_SourceProgram_define) 14 = .ok (.ifnull 9, 3) := by decide +kernel
theorem d_SourceProgram_define_17 : decode (mcd M_SourceProgram_define) 17 = .ok (.aload 4, 2) := by decide +kernel
theorem d_SourceProgram_define_19 : decode (mcd M_SourceProgram_define) 19 = .ok (.aload_n 3, 1) := by decide +kernel
theorem d_SourceProgram_define_20 : decode (mcd M_SourceProgram_define) 20 = .ok (.invokevirtual 63, 3) := by decide +kernel
theorem d_SourceProgram_define_23 : decode (mcd M_SourceProgram_define) 23 = .ok (.return_, 1) := by decide +kernel
theorem d_SourceProgram_isDeclared_0 : decode (mcd M_SourceProgram_isDeclared) 0 = .ok (.iload_n 1, 1) := by decide +kernel
theorem d_SourceProgram_isDeclared_1 : decode (mcd M_SourceProgram_isDeclared) 1 = .ok (.ifCond .lt 28, 3) := by decide +kernel
theorem d_SourceProgram_isDeclared_4 : decode (mcd M_SourceProgram_isDeclared) 4 = .ok (.iload_n 1, 1) := by decide +kernel
theorem d_SourceProgram_isDeclared_5 : decode (mcd M_SourceProgram_isDeclared) 5 = .ok (.bipush 8, 2) := by decide +kernel
theorem d_SourceProgram_isDeclared_7 : decode (mcd M_SourceProgram_isDeclared) 7 = .ok (.if_icmp .ge 22, 3) := by decide +kernel
theorem d_SourceProgram_isDeclared_10 : decode (mcd M_SourceProgram_isDeclared) 10 = .ok (.aload_n 0, 1) := by decide +kernel
theorem d_SourceProgram_isDeclared_11 : decode (mcd M_SourceProgram_isDeclared) 11 = .ok (.getfield 20, 3) := by decide +kernel
theorem d_SourceProgram_isDeclared_14 : decode (mcd M_SourceProgram_isDeclared) 14 = .ok (.sipush 200, 3) := by decide +kernel
theorem d_SourceProgram_isDeclared_17 : decode (mcd M_SourceProgram_isDeclared) 17 = .ok (.iload_n 1, 1) := by decide +kernel
theorem d_SourceProgram_isDeclared_18 : decode (mcd M_SourceProgram_isDeclared) 18 = .ok (.iadd, 1) := by decide +kernel
theorem d_SourceProgram_isDeclared_19 : decode (mcd M_SourceProgram_isDeclared) 19 = .ok (.invokevirtual 34, 3) := by decide +kernel
theorem d_SourceProgram_isDeclared_22 : decode (mcd M_SourceProgram_isDeclared) 22 = .ok (.ifCond .le 7, 3) := by decide +kernel
theorem d_SourceProgram_isDeclared_25 : decode (mcd M_SourceProgram_isDeclared) 25 = .ok (.iconst 1, 1) := by decide +kernel
theorem d_SourceProgram_isDeclared_26 : decode (mcd M_SourceProgram_isDeclared) 26 = .ok (.goto 4, 3) := by decide +kernel
theorem d_SourceProgram_isDeclared_29 : decode (mcd M_SourceProgram_isDeclared) 29 = .ok (.iconst 0, 1) := by decide +kernel
theorem d_SourceProgram_isDeclared_30 : decode (mcd M_SourceProgram_isDeclared) 30 = .ok (.ireturn, 1) := by decide +kernel
theorem d_SourceProgram_mayHave_0 : decode (mcd M_SourceProgram_mayHave) 0 = .ok (.aload_n 0, 1) := by decide +kernel
theorem d_SourceProgram_mayHave_1 : decode (mcd M_SourceProgram_mayHave) 1 = .ok (.getfield 20, 3) := by decide +kernel
theorem d_SourceProgram_mayHave_4 : decode (mcd M_SourceProgram_mayHave) 4 = .ok (.sipush 200, 3) := by decide +kernel
theorem d_SourceProgram_mayHave_7 : decode (mcd M_SourceProgram_mayHave) 7 = .ok (.iload_n 1, 1) := by decide +kernel
theorem d_SourceProgram_mayHave_8 : decode (mcd M_SourceProgram_mayHave) 8 = .ok (.iadd, 1) := by decide +kernel
theorem d_SourceProgram_mayHave_9 : decode (mcd M_SourceProgram_mayHave) 9 = .ok (.invokevirtual 34, 3) := by decide +kernel
theorem d_SourceProgram_mayHave_12 : decode (mcd M_SourceProgram_mayHave) 12 = .ok (.istore 4, 2) := by decide +kernel
theorem d_SourceProgram_mayHave_14 : decode (mcd M_SourceProgram_mayHave) 14 = .ok (.aload_n 0, 1) := by decide +kernel
theorem d_SourceProgram_mayHave_15 : decode (mcd M_SourceProgram_mayHave) 15 = .ok (.getfield 20, 3) := by decide +kernel
theorem d_SourceProgram_mayHave_18 : decode (mcd M_SourceProgram_mayHave) 18 = .ok (.sipush 200, 3) := by decide +kernel
theorem d_SourceProgram_mayHave_21 : decode (mcd M_SourceProgram_mayHave) 21 = .ok (.iload_n 1, 1) := by decide +kernel
theorem d_SourceProgram_mayHave_22 : decode (mcd M_SourceProgram_mayHave) 22 = .ok (.iadd, 1) := by decide +kernel
theorem d_SourceProgram_mayHave_23 : decode (mcd M_SourceProgram_mayHave) 23 = .ok (.invokevirtual 38, 3) := by decide +kernel
theorem d_SourceProgram_mayHave_26 : decode (mcd M_SourceProgram_mayHave) 26 = .ok (.ifCond .eq 29, 3) := by decide +kernel
theorem d_SourceProgram_mayHave_29 : decode (mcd M_SourceProgram_mayHave) 29 = .ok (.iload_n 2, 1) := by decide +kernel
theorem d_SourceProgram_mayHave_30 : decode (mcd M_SourceProgram_mayHave) 30 = .ok (.ifCond .lt 9, 3) := by decide +kernel
theorem d_SourceProgram_mayHave_33 : decode (mcd M_SourceProgram_mayHave) 33 = .ok (.iload_n 2, 1) := by decide +kernel
theorem d_SourceProgram_mayHave_34 : decode (mcd M_SourceProgram_mayHave) 34 = .ok (.bipush 6, 2) := by decide +kernel
theorem d_SourceProgram_mayHave_36 : decode (mcd M_SourceProgram_mayHave) 36 = .ok (.if_icmp .lt 5, 3) := by decide +kernel
theorem d_SourceProgram_mayHave_39 : decode (mcd M_SourceProgram_mayHave) 39 = .ok (.iconst 0, 1) := by decide +kernel
theorem d_SourceProgram_mayHave_40 : decode (mcd M_SourceProgram_mayHave) 40 = .ok (.ireturn, 1) := by decide +kernel
theorem d_SourceProgram_mayHave_41 : decode (mcd M_SourceProgram_mayHave) 41 = .ok (.iload 4, 2) := by decide +kernel
theorem d_SourceProgram_mayHave_43 : decode (mcd M_SourceProgram_mayHave) 43 = .ok (.iload_n 2, 1) := by decide +kernel
theorem d_SourceProgram_mayHave_44 : decode (mcd M_SourceProgram_mayHave) 44 = .ok (.invokestatic 42, 3) := by decide +kernel
theorem d_SourceProgram_mayHave_47 : decode (mcd M_SourceProgram_mayHave) 47 = .ok (.iconst 1, 1) := by decide +kernel
theorem d_SourceProgram_mayHave_48 : decode (mcd M_SourceProgram_mayHave) 48 = .ok (.isub, 1) := by decide +kernel
theorem d_SourceProgram_mayHave_49 : decode (mcd M_SourceProgram_mayHave) 49 = .ok (.iadd, 1) := by decide +kernel
theorem d_SourceProgram_mayHave_50 : decode (mcd M_SourceProgram_mayHave) 50 = .ok (.istore 4, 2) := by decide +kernel
theorem d_SourceProgram_mayHave_52 : decode (mcd M_SourceProgram_mayHave) 52 = .ok (.goto 10, 3) := by decide +kernel
theorem d_SourceProgram_mayHave_55 : decode (mcd M_SourceProgram_mayHave) 55 = .ok (.iload_n 2, 1) := by decide +kernel
theorem d_SourceProgram_mayHave_56 : decode (mcd M_SourceProgram_mayHave) 56 = .ok (.iconst (-1), 1) := by decide +kernel
theorem d_SourceProgram_mayHave_57 : decode (mcd M_SourceProgram_mayHave) 57 = .ok (.if_icmp .eq 5, 3) := by decide +kernel
theorem d_SourceProgram_mayHave_60 : decode (mcd M_SourceProgram_mayHave) 60 = .ok (.iconst 0, 1) := by decide +kernel
theorem d_SourceProgram_mayHave_61 : decode (mcd M_SourceProgram_mayHave) 61 = .ok (.ireturn, 1) := by decide +kernel
theorem d_SourceProgram_mayHave_62 : decode (mcd M_SourceProgram_mayHave) 62 = .ok (.iconst 0, 1) := by decide +kernel
theorem d_SourceProgram_mayHave_63 : decode (mcd M_SourceProgram_mayHave) 63 = .ok (.istore 5, 2) := by decide +kernel
theorem d_SourceProgram_mayHave_65 : decode (mcd M_SourceProgram_mayHave) 65 = .ok (.iload 5, 2) := by decide +kernel
theorem d_SourceProgram_mayHave_67 : decode (mcd M_SourceProgram_mayHave) 67 = .ok (.aload_n 3, 1) := by decide +kernel
theorem d_SourceProgram_mayHave_68 : decode (mcd M_SourceProgram_mayHave) 68 = .ok (.invokevirtual 45, 3) := by decide +kernel
theorem d_SourceProgram_mayHave_71 : decode (mcd M_SourceProgram_mayHave) 71 = .ok (.if_icmp .ge 34, 3) := by decide +kernel
theorem d_SourceProgram_mayHave_74 : decode (mcd M_SourceProgram_mayHave) 74 = .ok (.aload_n 3, 1) := by decide +kernel
theorem d_SourceProgram_mayHave_75 : decode (mcd M_SourceProgram_mayHave) 75 = .ok (.iload 5, 2) := by decide +kernel
theorem d_SourceProgram_mayHave_77 : decode (mcd M_SourceProgram_mayHave) 77 = .ok (.invokevirtual 49, 3) := by decide +kernel
theorem d_SourceProgram_mayHave_80 : decode (mcd M_SourceProgram_mayHave) 80 = .ok (.invokestatic 52, 3) := by decide +kernel
theorem d_SourceProgram_mayHave_83 : decode (mcd M_SourceProgram_mayHave) 83 = .ok (.ifCond .eq 16, 3) := by decide +kernel
theorem d_SourceProgram_mayHave_86 : decode (mcd M_SourceProgram_mayHave) 86 = .ok (.aload_n 3, 1) := by decide +kernel
theorem d_SourceProgram_mayHave_87 : decode (mcd M_SourceProgram_mayHave) 87 = .ok (.iload 5, 2) := by decide +kernel
theorem d_SourceProgram_mayHave_89 : decode (mcd M_SourceProgram_mayHave) 89 = .ok (.invokevirtual 49, 3) := by decide +kernel
theorem d_SourceProgram_mayHave_92 : decode (mcd M_SourceProgram_mayHave) 92 = .ok (.iload 4, 2) := by decide +kernel
theorem d_SourceProgram_mayHave_94 : decode (mcd M_SourceProgram_mayHave) 94 = .ok (.if_icmp .lt 5, 3) := by decide +kernel
theorem d_SourceProgram_mayHave_97 : decode (mcd M_SourceProgram_mayHave) 97 = .ok (.iconst 0, 1) := by decide +kernel
theorem d_SourceProgram_mayHave_98 : decode (mcd M_SourceProgram_mayHave) 98 = .ok (.ireturn, 1) := by decide +kernel
theorem d_SourceProgram_mayHave_99 : decode (mcd M_SourceProgram_mayHave) 99 = .ok (.iinc 5 1, 3) := by decide +kernel
theorem d_SourceProgram_mayHave_102 : decode (mcd M_SourceProgram_mayHave) 102 = .ok (.goto (-37), 3) := by decide +kernel
theorem d_SourceProgram_mayHave_105 : decode (mcd M_SourceProgram_mayHave) 105 = .ok (.aload_n 0, 1) := by decide +kernel
theorem d_SourceProgram_mayHave_106 : decode (mcd M_SourceProgram_mayHave) 106 = .ok (.getfield 20, 3) := by decide +kernel
theorem d_SourceProgram_mayHave_109 : decode (mcd M_SourceProgram_mayHave) 109 = .ok (.aload_n 3, 1) := by decide +kernel
theorem d_SourceProgram_mayHave_110 : decode (mcd M_SourceProgram_mayHave) 110 = .ok (.invokevirtual 55, 3) := by decide +kernel
theorem d_SourceProgram_mayHave_113 : decode (mcd M_SourceProgram_mayHave) 113 = .ok (.ireturn, 1) := by decide +kernel
theorem d_SourceProgram_placeOf_0 : decode (mcd M_SourceProgram_placeOf) 0 = .ok (.iload_n 1, 1) := by decide +kernel
theorem d_SourceProgram_placeOf_1 : decode (mcd M_SourceProgram_placeOf) 1 = .ok (.sipush 200, 3) := by decide +kernel
theorem d_SourceProgram_placeOf_4 : decode (mcd M_SourceProgram_placeOf) 4 = .ok (.isub, 1) := by decide +kernel
theorem d_SourceProgram_placeOf_5 : decode (mcd M_SourceProgram_placeOf) 5 = .ok (.istore_n 3, 1) := by decide +kernel
theorem d_SourceProgram_placeOf_6 : decode (mcd M_SourceProgram_placeOf) 6 = .ok (.iload_n 3, 1) := by decide +kernel
theorem d_SourceProgram_placeOf_7 : decode (mcd M_SourceProgram_placeOf) 7 = .ok (.ifCond .lt 20, 3) := by decide +kernel
theorem d_SourceProgram_placeOf_10 : decode (mcd M_SourceProgram_placeOf) 10 = .ok (.iload_n 3, 1) := by decide +kernel
theorem d_SourceProgram_placeOf_11 : decode (mcd M_SourceProgram_placeOf) 11 = .ok (.bipush 8, 2) := by decide +kernel
theorem d_SourceProgram_placeOf_13 : decode (mcd M_SourceProgram_placeOf) 13 = .ok (.if_icmp .ge 14, 3) := by decide +kernel
theorem d_SourceProgram_placeOf_16 : decode (mcd M_SourceProgram_placeOf) 16 = .ok (.iload_n 2, 1) := by decide +kernel
theorem d_SourceProgram_placeOf_17 : decode (mcd M_SourceProgram_placeOf) 17 = .ok (.iconst (-1), 1) := by decide +kernel
theorem d_SourceProgram_placeOf_18 : decode (mcd M_SourceProgram_placeOf) 18 = .ok (.if_icmp .lt 9, 3) := by decide +kernel
theorem d_SourceProgram_placeOf_21 : decode (mcd M_SourceProgram_placeOf) 21 = .ok (.iload_n 2, 1) := by decide +kernel
theorem d_SourceProgram_placeOf_22 : decode (mcd M_SourceProgram_placeOf) 22 = .ok (.bipush 6, 2) := by decide +kernel
theorem d_SourceProgram_placeOf_24 : decode (mcd M_SourceProgram_placeOf) 24 = .ok (.if_icmp .lt 5, 3) := by decide +kernel
theorem d_SourceProgram_placeOf_27 : decode (mcd M_SourceProgram_placeOf) 27 = .ok (.aconst_null, 1) := by decide +kernel
theorem d_SourceProgram_placeOf_28 : decode (mcd M_SourceProgram_placeOf) 28 = .ok (.areturn, 1) := by decide +kernel
theorem d_SourceProgram_placeOf_29 : decode (mcd M_SourceProgram_placeOf) 29 = .ok (.aload_n 0, 1) := by decide +kernel
theorem d_SourceProgram_placeOf_30 : decode (mcd M_SourceProgram_placeOf) 30 = .ok (.getfield 11, 3) := by decide +kernel
theorem d_SourceProgram_placeOf_33 : decode (mcd M_SourceProgram_placeOf) 33 = .ok (.iload_n 3, 1) := by decide +kernel
theorem d_SourceProgram_placeOf_34 : decode (mcd M_SourceProgram_placeOf) 34 = .ok (.bipush 6, 2) := by decide +kernel
theorem d_SourceProgram_placeOf_36 : decode (mcd M_SourceProgram_placeOf) 36 = .ok (.imul, 1) := by decide +kernel
theorem d_SourceProgram_placeOf_37 : decode (mcd M_SourceProgram_placeOf) 37 = .ok (.iload_n 2, 1) := by decide +kernel
theorem d_SourceProgram_placeOf_38 : decode (mcd M_SourceProgram_placeOf) 38 = .ok (.iconst (-1), 1) := by decide +kernel
theorem d_SourceProgram_placeOf_39 : decode (mcd M_SourceProgram_placeOf) 39 = .ok (.if_icmp .ne 7, 3) := by decide +kernel
theorem d_SourceProgram_placeOf_42 : decode (mcd M_SourceProgram_placeOf) 42 = .ok (.iconst 0, 1) := by decide +kernel
theorem d_SourceProgram_placeOf_43 : decode (mcd M_SourceProgram_placeOf) 43 = .ok (.goto 4, 3) := by decide +kernel
theorem d_SourceProgram_placeOf_46 : decode (mcd M_SourceProgram_placeOf) 46 = .ok (.iload_n 2, 1) := by decide +kernel
theorem d_SourceProgram_placeOf_47 : decode (mcd M_SourceProgram_placeOf) 47 = .ok (.iadd, 1) := by decide +kernel
theorem d_SourceProgram_placeOf_48 : decode (mcd M_SourceProgram_placeOf) 48 = .ok (.aaload, 1) := by decide +kernel
theorem d_SourceProgram_placeOf_49 : decode (mcd M_SourceProgram_placeOf) 49 = .ok (.areturn, 1) := by decide +kernel
theorem d_SourceProgram_variableOf_0 : decode (mcd M_SourceProgram_variableOf) 0 = .ok (.iload_n 3, 1) := by decide +kernel
theorem d_SourceProgram_variableOf_1 : decode (mcd M_SourceProgram_variableOf) 1 = .ok (.ireturn, 1) := by decide +kernel
