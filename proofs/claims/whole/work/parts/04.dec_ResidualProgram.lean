theorem d_ResidualProgram_init_0 : decode (mcd M_ResidualProgram_init) 0 = .ok (.aload_n 0, 1) := by decide +kernel
theorem d_ResidualProgram_init_1 : decode (mcd M_ResidualProgram_init) 1 = .ok (.aload_n 1, 1) := by decide +kernel
theorem d_ResidualProgram_init_2 : decode (mcd M_ResidualProgram_init) 2 = .ok (.aload_n 2, 1) := by decide +kernel
theorem d_ResidualProgram_init_3 : decode (mcd M_ResidualProgram_init) 3 = .ok (.invokespecial 3, 3) := by decide +kernel
theorem d_ResidualProgram_init_6 : decode (mcd M_ResidualProgram_init) 6 = .ok (.aload_n 0, 1) := by decide +kernel
theorem d_ResidualProgram_init_7 : decode (mcd M_ResidualProgram_init) 7 = .ok (.aload_n 3, 1) := by decide +kernel
theorem d_ResidualProgram_init_8 : decode (mcd M_ResidualProgram_init) 8 = .ok (.putfield 9, 3) := by decide +kernel
theorem d_ResidualProgram_init_11 : decode (mcd M_ResidualProgram_init) 11 = .ok (.return_, 1) := by decide +kernel
theorem d_ResidualProgram_addAllBelow_0 : decode (mcd M_ResidualProgram_addAllBelow) 0 = .ok (.aload_n 0, 1) := by decide +kernel
theorem d_ResidualProgram_addAllBelow_1 : decode (mcd M_ResidualProgram_addAllBelow) 1 = .ok (.getfield 52, 3) := by decide +kernel
theorem d_ResidualProgram_addAllBelow_4 : decode (mcd M_ResidualProgram_addAllBelow) 4 = .ok (.astore_n 1, 1) := by decide +kernel
theorem d_ResidualProgram_addAllBelow_5 : decode (mcd M_ResidualProgram_addAllBelow) 5 = .ok (.aload_n 1, 1) := by decide +kernel
theorem d_ResidualProgram_addAllBelow_6 : decode (mcd M_ResidualProgram_addAllBelow) 6 = .ok (.ifnull 30, 3) := by decide +kernel
theorem d_ResidualProgram_addAllBelow_9 : decode (mcd M_ResidualProgram_addAllBelow) 9 = .ok (.aload_n 0, 1) := by decide +kernel
theorem d_ResidualProgram_addAllBelow_10 : decode (mcd M_ResidualProgram_addAllBelow) 10 = .ok (.getfield 21, 3) := by decide +kernel
theorem d_ResidualProgram_addAllBelow_13 : decode (mcd M_ResidualProgram_addAllBelow) 13 = .ok (.aload_n 1, 1) := by decide +kernel
theorem d_ResidualProgram_addAllBelow_14 : decode (mcd M_ResidualProgram_addAllBelow) 14 = .ok (.getfield 21, 3) := by decide +kernel
theorem d_ResidualProgram_addAllBelow_17 : decode (mcd M_ResidualProgram_addAllBelow) 17 = .ok (.iconst 0, 1) := by decide +kernel
theorem d_ResidualProgram_addAllBelow_18 : decode (mcd M_ResidualProgram_addAllBelow) 18 = .ok (.aload_n 1, 1) := by decide +kernel
theorem d_ResidualProgram_addAllBelow_19 : decode (mcd M_ResidualProgram_addAllBelow) 19 = .ok (.getfield 21, 3) := by decide +kernel
theorem d_ResidualProgram_addAllBelow_22 : decode (mcd M_ResidualProgram_addAllBelow) 22 = .ok (.invokevirtual 96, 3) := by decide +kernel
theorem d_ResidualProgram_addAllBelow_25 : decode (mcd M_ResidualProgram_addAllBelow) 25 = .ok (.invokevirtual 129, 3) := by decide +kernel
theorem d_ResidualProgram_addAllBelow_28 : decode (mcd M_ResidualProgram_addAllBelow) 28 = .ok (.aload_n 1, 1) := by decide +kernel
theorem d_ResidualProgram_addAllBelow_29 : decode (mcd M_ResidualProgram_addAllBelow) 29 = .ok (.getfield 74, 3) := by decide +kernel
theorem d_ResidualProgram_addAllBelow_32 : decode (mcd M_ResidualProgram_addAllBelow) 32 = .ok (.astore_n 1, 1) := by decide +kernel
theorem d_ResidualProgram_addAllBelow_33 : decode (mcd M_ResidualProgram_addAllBelow) 33 = .ok (.goto (-28), 3) := by decide +kernel
theorem d_ResidualProgram_addAllBelow_36 : decode (mcd M_ResidualProgram_addAllBelow) 36 = .ok (.return_, 1) := by decide +kernel
theorem d_ResidualProgram_bodyOf_0 : decode (mcd M_ResidualProgram_bodyOf) 0 = .ok (.aload_n 0, 1) := by decide +kernel
theorem d_ResidualProgram_bodyOf_1 : decode (mcd M_ResidualProgram_bodyOf) 1 = .ok (.getfield 9, 3) := by decide +kernel
theorem d_ResidualProgram_bodyOf_4 : decode (mcd M_ResidualProgram_bodyOf) 4 = .ok (.iload_n 1, 1) := by decide +kernel
theorem d_ResidualProgram_bodyOf_5 : decode (mcd M_ResidualProgram_bodyOf) 5 = .ok (.sipush 300, 3) := by decide +kernel
theorem d_ResidualProgram_bodyOf_8 : decode (mcd M_ResidualProgram_bodyOf) 8 = .ok (.isub, 1) := by decide +kernel
theorem d_ResidualProgram_bodyOf_9 : decode (mcd M_ResidualProgram_bodyOf) 9 = .ok (.invokevirtual 15, 3) := by decide +kernel
theorem d_ResidualProgram_bodyOf_12 : decode (mcd M_ResidualProgram_bodyOf) 12 = .ok (.astore_n 3, 1) := by decide +kernel
theorem d_ResidualProgram_bodyOf_13 : decode (mcd M_ResidualProgram_bodyOf) 13 = .ok (.aload_n 3, 1) := by decide +kernel
theorem d_ResidualProgram_bodyOf_14 : decode (mcd M_ResidualProgram_bodyOf) 14 = .ok (.ifnull 10, 3) := by decide +kernel
theorem d_ResidualProgram_bodyOf_17 : decode (mcd M_ResidualProgram_bodyOf) 17 = .ok (.aload_n 3, 1) := by decide +kernel
theorem d_ResidualProgram_bodyOf_18 : decode (mcd M_ResidualProgram_bodyOf) 18 = .ok (.getfield 35, 3) := by decide +kernel
theorem d_ResidualProgram_bodyOf_21 : decode (mcd M_ResidualProgram_bodyOf) 21 = .ok (.ifCond .ne 5, 3) := by decide +kernel
theorem d_ResidualProgram_bodyOf_24 : decode (mcd M_ResidualProgram_bodyOf) 24 = .ok (.aconst_null, 1) := by decide +kernel
theorem d_ResidualProgram_bodyOf_25 : decode (mcd M_ResidualProgram_bodyOf) 25 = .ok (.areturn, 1) := by decide +kernel
theorem d_ResidualProgram_bodyOf_26 : decode (mcd M_ResidualProgram_bodyOf) 26 = .ok (.iload_n 2, 1) := by decide +kernel
theorem d_ResidualProgram_bodyOf_27 : decode (mcd M_ResidualProgram_bodyOf) 27 = .ok (.iconst (-1), 1) := by decide +kernel
theorem d_ResidualProgram_bodyOf_28 : decode (mcd M_ResidualProgram_bodyOf) 28 = .ok (.if_icmp .ne 10, 3) := by decide +kernel
theorem d_ResidualProgram_bodyOf_31 : decode (mcd M_ResidualProgram_bodyOf) 31 = .ok (.aload_n 3, 1) := by decide +kernel
theorem d_ResidualProgram_bodyOf_32 : decode (mcd M_ResidualProgram_bodyOf) 32 = .ok (.getfield 52, 3) := by decide +kernel
theorem d_ResidualProgram_bodyOf_35 : decode (mcd M_ResidualProgram_bodyOf) 35 = .ok (.goto 8, 3) := by decide +kernel
theorem d_ResidualProgram_bodyOf_38 : decode (mcd M_ResidualProgram_bodyOf) 38 = .ok (.aload_n 3, 1) := by decide +kernel
theorem d_ResidualProgram_bodyOf_39 : decode (mcd M_ResidualProgram_bodyOf) 39 = .ok (.iload_n 2, 1) := by decide +kernel
theorem d_ResidualProgram_bodyOf_40 : decode (mcd M_ResidualProgram_bodyOf) 40 = .ok (.invokestatic 56, 3) := by decide +kernel
theorem d_ResidualProgram_bodyOf_43 : decode (mcd M_ResidualProgram_bodyOf) 43 = .ok (.astore 4, 2) := by decide +kernel
theorem d_ResidualProgram_bodyOf_45 : decode (mcd M_ResidualProgram_bodyOf) 45 = .ok (.aload 4, 2) := by decide +kernel
theorem d_ResidualProgram_bodyOf_47 : decode (mcd M_ResidualProgram_bodyOf) 47 = .ok (.ifnonnull 7, 3) := by decide +kernel
theorem d_ResidualProgram_bodyOf_50 : decode (mcd M_ResidualProgram_bodyOf) 50 = .ok (.aconst_null, 1) := by decide +kernel
theorem d_ResidualProgram_bodyOf_51 : decode (mcd M_ResidualProgram_bodyOf) 51 = .ok (.goto 8, 3) := by decide +kernel
theorem d_ResidualProgram_bodyOf_54 : decode (mcd M_ResidualProgram_bodyOf) 54 = .ok (.aload 4, 2) := by decide +kernel
theorem d_ResidualProgram_bodyOf_56 : decode (mcd M_ResidualProgram_bodyOf) 56 = .ok (.getfield 21, 3) := by decide +kernel
theorem d_ResidualProgram_bodyOf_59 : decode (mcd M_ResidualProgram_bodyOf) 59 = .ok (.areturn, 1) := by decide +kernel
theorem d_ResidualProgram_clauseBelow_0 : decode (mcd M_ResidualProgram_clauseBelow) 0 = .ok (.aload_n 0, 1) := by decide +kernel
theorem d_ResidualProgram_clauseBelow_1 : decode (mcd M_ResidualProgram_clauseBelow) 1 = .ok (.getfield 52, 3) := by decide +kernel
theorem d_ResidualProgram_clauseBelow_4 : decode (mcd M_ResidualProgram_clauseBelow) 4 = .ok (.astore_n 2, 1) := by decide +kernel
theorem d_ResidualProgram_clauseBelow_5 : decode (mcd M_ResidualProgram_clauseBelow) 5 = .ok (.aload_n 2, 1) := by decide +kernel
theorem d_ResidualProgram_clauseBelow_6 : decode (mcd M_ResidualProgram_clauseBelow) 6 = .ok (.ifnull 21, 3) := by decide +kernel
theorem d_ResidualProgram_clauseBelow_9 : decode (mcd M_ResidualProgram_clauseBelow) 9 = .ok (.aload_n 2, 1) := by decide +kernel
theorem d_ResidualProgram_clauseBelow_10 : decode (mcd M_ResidualProgram_clauseBelow) 10 = .ok (.getfield 71, 3) := by decide +kernel
theorem d_ResidualProgram_clauseBelow_13 : decode (mcd M_ResidualProgram_clauseBelow) 13 = .ok (.iload_n 1, 1) := by decide +kernel
theorem d_ResidualProgram_clauseBelow_14 : decode (mcd M_ResidualProgram_clauseBelow) 14 = .ok (.if_icmp .ne 5, 3) := by decide +kernel
theorem d_ResidualProgram_clauseBelow_17 : decode (mcd M_ResidualProgram_clauseBelow) 17 = .ok (.aload_n 2, 1) := by decide +kernel
theorem d_ResidualProgram_clauseBelow_18 : decode (mcd M_ResidualProgram_clauseBelow) 18 = .ok (.areturn, 1) := by decide +kernel
theorem d_ResidualProgram_clauseBelow_19 : decode (mcd M_ResidualProgram_clauseBelow) 19 = .ok (.aload_n 2, 1) := by decide +kernel
theorem d_ResidualProgram_clauseBelow_20 : decode (mcd M_ResidualProgram_clauseBelow) 20 = .ok (.getfield 74, 3) := by decide +kernel
theorem d_ResidualProgram_clauseBelow_23 : decode (mcd M_ResidualProgram_clauseBelow) 23 = .ok (.astore_n 2, 1) := by decide +kernel
theorem d_ResidualProgram_clauseBelow_24 : decode (mcd M_ResidualProgram_clauseBelow) 24 = .ok (.goto (-19), 3) := by decide +kernel
theorem d_ResidualProgram_clauseBelow_27 : decode (mcd M_ResidualProgram_clauseBelow) 27 = .ok (.aconst_null, 1) := by decide +kernel
theorem d_ResidualProgram_clauseBelow_28 : decode (mcd M_ResidualProgram_clauseBelow) 28 = .ok (.areturn, 1) := by decide +kernel
theorem d_ResidualProgram_markFunctions_0 : decode (mcd M_ResidualProgram_markFunctions) 0 = .ok (.iconst 0, 1) := by decide +kernel
theorem d_ResidualProgram_markFunctions_1 : decode (mcd M_ResidualProgram_markFunctions) 1 = .ok (.istore_n 1, 1) := by decide +kernel
theorem d_ResidualProgram_markFunctions_2 : decode (mcd M_ResidualProgram_markFunctions) 2 = .ok (.iload_n 1, 1) := by decide +kernel
theorem d_ResidualProgram_markFunctions_3 : decode (mcd M_ResidualProgram_markFunctions) 3 = .ok (.aload_n 0, 1) := by decide +kernel
theorem d_ResidualProgram_markFunctions_4 : decode (mcd M_ResidualProgram_markFunctions) 4 = .ok (.getfield 9, 3) := by decide +kernel
theorem d_ResidualProgram_markFunctions_7 : decode (mcd M_ResidualProgram_markFunctions) 7 = .ok (.invokevirtual 31, 3) := by decide +kernel
theorem d_ResidualProgram_markFunctions_10 : decode (mcd M_ResidualProgram_markFunctions) 10 = .ok (.if_icmp .ge 57, 3) := by decide +kernel
theorem d_ResidualProgram_markFunctions_13 : decode (mcd M_ResidualProgram_markFunctions) 13 = .ok (.aload_n 0, 1) := by decide +kernel
theorem d_ResidualProgram_markFunctions_14 : decode (mcd M_ResidualProgram_markFunctions) 14 = .ok (.getfield 9, 3) := by decide +kernel
theorem d_ResidualProgram_markFunctions_17 : decode (mcd M_ResidualProgram_markFunctions) 17 = .ok (.iload_n 1, 1) := by decide +kernel
theorem d_ResidualProgram_markFunctions_18 : decode (mcd M_ResidualProgram_markFunctions) 18 = .ok (.invokevirtual 15, 3) := by decide +kernel
theorem d_ResidualProgram_markFunctions_21 : decode (mcd M_ResidualProgram_markFunctions) 21 = .ok (.astore_n 2, 1) := by decide +kernel
theorem d_ResidualProgram_markFunctions_22 : decode (mcd M_ResidualProgram_markFunctions) 22 = .ok (.aload_n 2, 1) := by decide +kernel
theorem d_ResidualProgram_markFunctions_23 : decode (mcd M_ResidualProgram_markFunctions) 23 = .ok (.ifnull 19, 3) := by decide +kernel
theorem d_ResidualProgram_markFunctions_26 : decode (mcd M_ResidualProgram_markFunctions) 26 = .ok (.aload_n 2, 1) := by decide +kernel
theorem d_ResidualProgram_markFunctions_27 : decode (mcd M_ResidualProgram_markFunctions) 27 = .ok (.getfield 77, 3) := by decide +kernel
theorem d_ResidualProgram_markFunctions_30 : decode (mcd M_ResidualProgram_markFunctions) 30 = .ok (.iconst 4, 1) := by decide +kernel
theorem d_ResidualProgram_markFunctions_31 : decode (mcd M_ResidualProgram_markFunctions) 31 = .ok (.if_icmp .ne 11, 3) := by decide +kernel
theorem d_ResidualProgram_markFunctions_34 : decode (mcd M_ResidualProgram_markFunctions) 34 = .ok (.aload_n 2, 1) := by decide +kernel
theorem d_ResidualProgram_markFunctions_35 : decode (mcd M_ResidualProgram_markFunctions) 35 = .ok (.iconst 1, 1) := by decide +kernel
theorem d_ResidualProgram_markFunctions_36 : decode (mcd M_ResidualProgram_markFunctions) 36 = .ok (.putfield 35, 3) := by decide +kernel
theorem d_ResidualProgram_markFunctions_39 : decode (mcd M_ResidualProgram_markFunctions) 39 = .ok (.goto 22, 3) := by decide +kernel
theorem d_ResidualProgram_markFunctions_42 : decode (mcd M_ResidualProgram_markFunctions) 42 = .ok (.aload_n 2, 1) := by decide +kernel
theorem d_ResidualProgram_markFunctions_43 : decode (mcd M_ResidualProgram_markFunctions) 43 = .ok (.ifnull 18, 3) := by decide +kernel
theorem d_ResidualProgram_markFunctions_46 : decode (mcd M_ResidualProgram_markFunctions) 46 = .ok (.aload_n 2, 1) := by decide +kernel
theorem d_ResidualProgram_markFunctions_47 : decode (mcd M_ResidualProgram_markFunctions) 47 = .ok (.getfield 80, 3) := by decide +kernel
theorem d_ResidualProgram_markFunctions_50 : decode (mcd M_ResidualProgram_markFunctions) 50 = .ok (.ifnull 11, 3) := by decide +kernel
theorem d_ResidualProgram_markFunctions_53 : decode (mcd M_ResidualProgram_markFunctions) 53 = .ok (.aload_n 2, 1) := by decide +kernel
theorem d_ResidualProgram_markFunctions_54 : decode (mcd M_ResidualProgram_markFunctions) 54 = .ok (.getfield 80, 3) := by decide +kernel
theorem d_ResidualProgram_markFunctions_57 : decode (mcd M_ResidualProgram_markFunctions) 57 = .ok (.iconst 1, 1) := by decide +kernel
theorem d_ResidualProgram_markFunctions_58 : decode (mcd M_ResidualProgram_markFunctions) 58 = .ok (.putfield 35, 3) := by decide +kernel
theorem d_ResidualProgram_markFunctions_61 : decode (mcd M_ResidualProgram_markFunctions) 61 = .ok (.iinc 1 1, 3) := by decide +kernel
theorem d_ResidualProgram_markFunctions_64 : decode (mcd M_ResidualProgram_markFunctions) 64 = .ok (.goto (-62), 3) := by decide +kernel
theorem d_ResidualProgram_markFunctions_67 : decode (mcd M_ResidualProgram_markFunctions) 67 = .ok (.return_, 1) := by decide +kernel
theorem d_ResidualProgram_start_0 : decode (mcd M_ResidualProgram_start) 0 = .ok (.aload_n 0, 1) := by decide +kernel
theorem d_ResidualProgram_start_1 : decode (mcd M_ResidualProgram_start) 1 = .ok (.getfield 9, 3) := by decide +kernel
theorem d_ResidualProgram_start_4 : decode (mcd M_ResidualProgram_start) 4 = .ok (.iconst 0, 1) := by decide +kernel
theorem d_ResidualProgram_start_5 : decode (mcd M_ResidualProgram_start) 5 = .ok (.invokevirtual 15, 3) := by decide +kernel
theorem d_ResidualProgram_start_8 : decode (mcd M_ResidualProgram_start) 8 = .ok (.astore_n 1, 1) := by decide +kernel
theorem d_ResidualProgram_start_9 : decode (mcd M_ResidualProgram_start) 9 = .ok (.aload_n 1, 1) := by decide +kernel
theorem d_ResidualProgram_start_10 : decode (mcd M_ResidualProgram_start) 10 = .ok (.ifnonnull 7, 3) := by decide +kernel
theorem d_ResidualProgram_start_13 : decode (mcd M_ResidualProgram_start) 13 = .ok (.aconst_null, 1) := by decide +kernel
theorem d_ResidualProgram_start_14 : decode (mcd M_ResidualProgram_start) 14 = .ok (.goto 7, 3) := by decide +kernel
theorem d_ResidualProgram_start_17 : decode (mcd M_ResidualProgram_start) 17 = .ok (.aload_n 1, 1) := by decide +kernel
theorem d_ResidualProgram_start_18 : decode (mcd M_ResidualProgram_start) 18 = .ok (.getfield 21, 3) := by decide +kernel
theorem d_ResidualProgram_start_21 : decode (mcd M_ResidualProgram_start) 21 = .ok (.areturn, 1) := by decide +kernel
theorem d_ResidualProgram_variableOf_0 : decode (mcd M_ResidualProgram_variableOf) 0 = .ok (.aload_n 0, 1) := by decide +kernel
theorem d_ResidualProgram_variableOf_1 : decode (mcd M_ResidualProgram_variableOf) 1 = .ok (.getfield 9, 3) := by decide +kernel
theorem d_ResidualProgram_variableOf_4 : decode (mcd M_ResidualProgram_variableOf) 4 = .ok (.iload_n 1, 1) := by decide +kernel
theorem d_ResidualProgram_variableOf_5 : decode (mcd M_ResidualProgram_variableOf) 5 = .ok (.sipush 300, 3) := by decide +kernel
theorem d_ResidualProgram_variableOf_8 : decode (mcd M_ResidualProgram_variableOf) 8 = .ok (.isub, 1) := by decide +kernel
theorem d_ResidualProgram_variableOf_9 : decode (mcd M_ResidualProgram_variableOf) 9 = .ok (.invokevirtual 15, 3) := by decide +kernel
theorem d_ResidualProgram_variableOf_12 : decode (mcd M_ResidualProgram_variableOf) 12 = .ok (.astore 4, 2) := by decide +kernel
theorem d_ResidualProgram_variableOf_14 : decode (mcd M_ResidualProgram_variableOf) 14 = .ok (.aload 4, 2) := by decide +kernel
theorem d_ResidualProgram_variableOf_16 : decode (mcd M_ResidualProgram_variableOf) 16 = .ok (.ifnonnull 5, 3) := by decide +kernel
theorem d_ResidualProgram_variableOf_19 : decode (mcd M_ResidualProgram_variableOf) 19 = .ok (.iconst (-1), 1) := by decide +kernel
theorem d_ResidualProgram_variableOf_20 : decode (mcd M_ResidualProgram_variableOf) 20 = .ok (.ireturn, 1) := by decide +kernel
theorem d_ResidualProgram_variableOf_21 : decode (mcd M_ResidualProgram_variableOf) 21 = .ok (.iload_n 2, 1) := by decide +kernel
theorem d_ResidualProgram_variableOf_22 : decode (mcd M_ResidualProgram_variableOf) 22 = .ok (.iconst (-1), 1) := by decide +kernel
theorem d_ResidualProgram_variableOf_23 : decode (mcd M_ResidualProgram_variableOf) 23 = .ok (.if_icmp .ne 15, 3) := by decide +kernel
theorem d_ResidualProgram_variableOf_26 : decode (mcd M_ResidualProgram_variableOf) 26 = .ok (.aload 4, 2) := by decide +kernel
theorem d_ResidualProgram_variableOf_28 : decode (mcd M_ResidualProgram_variableOf) 28 = .ok (.getfield 21, 3) := by decide +kernel
theorem d_ResidualProgram_variableOf_31 : decode (mcd M_ResidualProgram_variableOf) 31 = .ok (.iconst 1, 1) := by decide +kernel
theorem d_ResidualProgram_variableOf_32 : decode (mcd M_ResidualProgram_variableOf) 32 = .ok (.iload_n 3, 1) := by decide +kernel
theorem d_ResidualProgram_variableOf_33 : decode (mcd M_ResidualProgram_variableOf) 33 = .ok (.iadd, 1) := by decide +kernel
theorem d_ResidualProgram_variableOf_34 : decode (mcd M_ResidualProgram_variableOf) 34 = .ok (.invokevirtual 60, 3) := by decide +kernel
theorem d_ResidualProgram_variableOf_37 : decode (mcd M_ResidualProgram_variableOf) 37 = .ok (.ireturn, 1) := by decide +kernel
theorem d_ResidualProgram_variableOf_38 : decode (mcd M_ResidualProgram_variableOf) 38 = .ok (.iload_n 2, 1) := by decide +kernel
theorem d_ResidualProgram_variableOf_39 : decode (mcd M_ResidualProgram_variableOf) 39 = .ok (.invokestatic 64, 3) := by decide +kernel
theorem d_ResidualProgram_variableOf_42 : decode (mcd M_ResidualProgram_variableOf) 42 = .ok (.istore 5, 2) := by decide +kernel
theorem d_ResidualProgram_variableOf_44 : decode (mcd M_ResidualProgram_variableOf) 44 = .ok (.iload_n 3, 1) := by decide +kernel
theorem d_ResidualProgram_variableOf_45 : decode (mcd M_ResidualProgram_variableOf) 45 = .ok (.iload 5, 2) := by decide +kernel
theorem d_ResidualProgram_variableOf_47 : decode (mcd M_ResidualProgram_variableOf) 47 = .ok (.if_icmp .lt 18, 3) := by decide +kernel
theorem d_ResidualProgram_variableOf_50 : decode (mcd M_ResidualProgram_variableOf) 50 = .ok (.aload 4, 2) := by decide +kernel
theorem d_ResidualProgram_variableOf_52 : decode (mcd M_ResidualProgram_variableOf) 52 = .ok (.getfield 21, 3) := by decide +kernel
theorem d_ResidualProgram_variableOf_55 : decode (mcd M_ResidualProgram_variableOf) 55 = .ok (.iconst 2, 1) := by decide +kernel
theorem d_ResidualProgram_variableOf_56 : decode (mcd M_ResidualProgram_variableOf) 56 = .ok (.iload_n 3, 1) := by decide +kernel
theorem d_ResidualProgram_variableOf_57 : decode (mcd M_ResidualProgram_variableOf) 57 = .ok (.iadd, 1) := by decide +kernel
theorem d_ResidualProgram_variableOf_58 : decode (mcd M_ResidualProgram_variableOf) 58 = .ok (.iload 5, 2) := by decide +kernel
theorem d_ResidualProgram_variableOf_60 : decode (mcd M_ResidualProgram_variableOf) 60 = .ok (.isub, 1) := by decide +kernel
theorem d_ResidualProgram_variableOf_61 : decode (mcd M_ResidualProgram_variableOf) 61 = .ok (.invokevirtual 60, 3) := by decide +kernel
theorem d_ResidualProgram_variableOf_64 : decode (mcd M_ResidualProgram_variableOf) 64 = .ok (.ireturn, 1) := by decide +kernel
theorem d_ResidualProgram_variableOf_65 : decode (mcd M_ResidualProgram_variableOf) 65 = .ok (.aload 4, 2) := by decide +kernel
theorem d_ResidualProgram_variableOf_67 : decode (mcd M_ResidualProgram_variableOf) 67 = .ok (.iload_n 2, 1) := by decide +kernel
theorem d_ResidualProgram_variableOf_68 : decode (mcd M_ResidualProgram_variableOf) 68 = .ok (.invokestatic 56, 3) := by decide +kernel
theorem d_ResidualProgram_variableOf_71 : decode (mcd M_ResidualProgram_variableOf) 71 = .ok (.astore 6, 2) := by decide +kernel
theorem d_ResidualProgram_variableOf_73 : decode (mcd M_ResidualProgram_variableOf) 73 = .ok (.aload 6, 2) := by decide +kernel
theorem d_ResidualProgram_variableOf_75 : decode (mcd M_ResidualProgram_variableOf) 75 = .ok (.ifnonnull 7, 3) := by decide +kernel
theorem d_ResidualProgram_variableOf_78 : decode (mcd M_ResidualProgram_variableOf) 78 = .ok (.iconst (-1), 1) := by decide +kernel
theorem d_ResidualProgram_variableOf_79 : decode (mcd M_ResidualProgram_variableOf) 79 = .ok (.goto 10, 3) := by decide +kernel
theorem d_ResidualProgram_variableOf_82 : decode (mcd M_ResidualProgram_variableOf) 82 = .ok (.aload 6, 2) := by decide +kernel
theorem d_ResidualProgram_variableOf_84 : decode (mcd M_ResidualProgram_variableOf) 84 = .ok (.getfield 67, 3) := by decide +kernel
theorem d_ResidualProgram_variableOf_87 : decode (mcd M_ResidualProgram_variableOf) 87 = .ok (.iload_n 3, 1) := by decide +kernel
theorem d_ResidualProgram_variableOf_88 : decode (mcd M_ResidualProgram_variableOf) 88 = .ok (.iadd, 1) := by decide +kernel
theorem d_ResidualProgram_variableOf_89 : decode (mcd M_ResidualProgram_variableOf) 89 = .ok (.ireturn, 1) := by decide +kernel
theorem d_ResidualProgram_write_0 : decode (mcd M_ResidualProgram_write) 0 = .ok (.aload_n 0, 1) := by decide +kernel
theorem d_ResidualProgram_write_1 : decode (mcd M_ResidualProgram_write) 1 = .ok (.invokevirtual 27, 3) := by decide +kernel
theorem d_ResidualProgram_write_4 : decode (mcd M_ResidualProgram_write) 4 = .ok (.iconst 0, 1) := by decide +kernel
theorem d_ResidualProgram_write_5 : decode (mcd M_ResidualProgram_write) 5 = .ok (.istore_n 1, 1) := by decide +kernel
theorem d_ResidualProgram_write_6 : decode (mcd M_ResidualProgram_write) 6 = .ok (.iload_n 1, 1) := by decide +kernel
theorem d_ResidualProgram_write_7 : decode (mcd M_ResidualProgram_write) 7 = .ok (.aload_n 0, 1) := by decide +kernel
theorem d_ResidualProgram_write_8 : decode (mcd M_ResidualProgram_write) 8 = .ok (.getfield 9, 3) := by decide +kernel
theorem d_ResidualProgram_write_11 : decode (mcd M_ResidualProgram_write) 11 = .ok (.invokevirtual 31, 3) := by decide +kernel
theorem d_ResidualProgram_write_14 : decode (mcd M_ResidualProgram_write) 14 = .ok (.if_icmp .ge 34, 3) := by decide +kernel
theorem d_ResidualProgram_write_17 : decode (mcd M_ResidualProgram_write) 17 = .ok (.aload_n 0, 1) := by decide +kernel
theorem d_ResidualProgram_write_18 : decode (mcd M_ResidualProgram_write) 18 = .ok (.getfield 9, 3) := by decide +kernel
theorem d_ResidualProgram_write_21 : decode (mcd M_ResidualProgram_write) 21 = .ok (.iload_n 1, 1) := by decide +kernel
theorem d_ResidualProgram_write_22 : decode (mcd M_ResidualProgram_write) 22 = .ok (.invokevirtual 15, 3) := by decide +kernel
theorem d_ResidualProgram_write_25 : decode (mcd M_ResidualProgram_write) 25 = .ok (.astore_n 2, 1) := by decide +kernel
theorem d_ResidualProgram_write_26 : decode (mcd M_ResidualProgram_write) 26 = .ok (.aload_n 2, 1) := by decide +kernel
theorem d_ResidualProgram_write_27 : decode (mcd M_ResidualProgram_write) 27 = .ok (.ifnull 15, 3) := by decide +kernel
theorem d_ResidualProgram_write_30 : decode (mcd M_ResidualProgram_write) 30 = .ok (.aload_n 2, 1) := by decide +kernel
theorem d_ResidualProgram_write_31 : decode (mcd M_ResidualProgram_write) 31 = .ok (.getfield 35, 3) := by decide +kernel
theorem d_ResidualProgram_write_34 : decode (mcd M_ResidualProgram_write) 34 = .ok (.ifCond .eq 8, 3) := by decide +kernel
theorem d_ResidualProgram_write_37 : decode (mcd M_ResidualProgram_write) 37 = .ok (.aload_n 0, 1) := by decide +kernel
theorem d_ResidualProgram_write_38 : decode (mcd M_ResidualProgram_write) 38 = .ok (.aload_n 2, 1) := by decide +kernel
theorem d_ResidualProgram_write_39 : decode (mcd M_ResidualProgram_write) 39 = .ok (.invokevirtual 39, 3) := by decide +kernel
theorem d_ResidualProgram_write_42 : decode (mcd M_ResidualProgram_write) 42 = .ok (.iinc 1 1, 3) := by decide +kernel
theorem d_ResidualProgram_write_45 : decode (mcd M_ResidualProgram_write) 45 = .ok (.goto (-39), 3) := by decide +kernel
theorem d_ResidualProgram_write_48 : decode (mcd M_ResidualProgram_write) 48 = .ok (.aload_n 0, 1) := by decide +kernel
theorem d_ResidualProgram_write_49 : decode (mcd M_ResidualProgram_write) 49 = .ok (.getfield 9, 3) := by decide +kernel
theorem d_ResidualProgram_write_52 : decode (mcd M_ResidualProgram_write) 52 = .ok (.invokevirtual 31, 3) := by decide +kernel
theorem d_ResidualProgram_write_55 : decode (mcd M_ResidualProgram_write) 55 = .ok (.iconst 1, 1) := by decide +kernel
theorem d_ResidualProgram_write_56 : decode (mcd M_ResidualProgram_write) 56 = .ok (.isub, 1) := by decide +kernel
theorem d_ResidualProgram_write_57 : decode (mcd M_ResidualProgram_write) 57 = .ok (.istore_n 1, 1) := by decide +kernel
theorem d_ResidualProgram_write_58 : decode (mcd M_ResidualProgram_write) 58 = .ok (.iload_n 1, 1) := by decide +kernel
theorem d_ResidualProgram_write_59 : decode (mcd M_ResidualProgram_write) 59 = .ok (.ifCond .lt 50, 3) := by decide +kernel
theorem d_ResidualProgram_write_62 : decode (mcd M_ResidualProgram_write) 62 = .ok (.aload_n 0, 1) := by decide +kernel
theorem d_ResidualProgram_write_63 : decode (mcd M_ResidualProgram_write) 63 = .ok (.getfield 9, 3) := by decide +kernel
theorem d_ResidualProgram_write_66 : decode (mcd M_ResidualProgram_write) 66 = .ok (.iload_n 1, 1) := by decide +kernel
theorem d_ResidualProgram_write_67 : decode (mcd M_ResidualProgram_write) 67 = .ok (.invokevirtual 15, 3) := by decide +kernel
theorem d_ResidualProgram_write_70 : decode (mcd M_ResidualProgram_write) 70 = .ok (.astore_n 2, 1) := by decide +kernel
theorem d_ResidualProgram_write_71 : decode (mcd M_ResidualProgram_write) 71 = .ok (.aload_n 2, 1) := by decide +kernel
theorem d_ResidualProgram_write_72 : decode (mcd M_ResidualProgram_write) 72 = .ok (.ifnull 15, 3) := by decide +kernel
theorem d_ResidualProgram_write_75 : decode (mcd M_ResidualProgram_write) 75 = .ok (.aload_n 2, 1) := by decide +kernel
theorem d_ResidualProgram_write_76 : decode (mcd M_ResidualProgram_write) 76 = .ok (.getfield 35, 3) := by decide +kernel
theorem d_ResidualProgram_write_79 : decode (mcd M_ResidualProgram_write) 79 = .ok (.ifCond .ne 8, 3) := by decide +kernel
theorem d_ResidualProgram_write_82 : decode (mcd M_ResidualProgram_write) 82 = .ok (.aload_n 0, 1) := by decide +kernel
theorem d_ResidualProgram_write_83 : decode (mcd M_ResidualProgram_write) 83 = .ok (.aload_n 2, 1) := by decide +kernel
theorem d_ResidualProgram_write_84 : decode (mcd M_ResidualProgram_write) 84 = .ok (.invokevirtual 43, 3) := by decide +kernel
theorem d_ResidualProgram_write_87 : decode (mcd M_ResidualProgram_write) 87 = .ok (.aload_n 2, 1) := by decide +kernel
theorem d_ResidualProgram_write_88 : decode (mcd M_ResidualProgram_write) 88 = .ok (.ifnull 15, 3) := by decide +kernel
theorem d_ResidualProgram_write_91 : decode (mcd M_ResidualProgram_write) 91 = .ok (.aload_n 2, 1) := by decide +kernel
theorem d_ResidualProgram_write_92 : decode (mcd M_ResidualProgram_write) 92 = .ok (.getfield 21, 3) := by decide +kernel
theorem d_ResidualProgram_write_95 : decode (mcd M_ResidualProgram_write) 95 = .ok (.invokevirtual 46, 3) := by decide +kernel
theorem d_ResidualProgram_write_98 : decode (mcd M_ResidualProgram_write) 98 = .ok (.ifCond .eq 5, 3) := by decide +kernel
theorem d_ResidualProgram_write_101 : decode (mcd M_ResidualProgram_write) 101 = .ok (.iconst 0, 1) := by decide +kernel
theorem d_ResidualProgram_write_102 : decode (mcd M_ResidualProgram_write) 102 = .ok (.ireturn, 1) := by decide +kernel
theorem d_ResidualProgram_write_103 : decode (mcd M_ResidualProgram_write) 103 = .ok (.iinc 1 (-1), 3) := by decide +kernel
theorem d_ResidualProgram_write_106 : decode (mcd M_ResidualProgram_write) 106 = .ok (.goto (-48), 3) := by decide +kernel
theorem d_ResidualProgram_write_109 : decode (mcd M_ResidualProgram_write) 109 = .ok (.iconst 1, 1) := by decide +kernel
theorem d_ResidualProgram_write_110 : decode (mcd M_ResidualProgram_write) 110 = .ok (.ireturn, 1) := by decide +kernel
theorem d_ResidualProgram_writeFold_0 : decode (mcd M_ResidualProgram_writeFold) 0 = .ok (.aload_n 0, 1) := by decide +kernel
theorem d_ResidualProgram_writeFold_1 : decode (mcd M_ResidualProgram_writeFold) 1 = .ok (.getfield 80, 3) := by decide +kernel
theorem d_ResidualProgram_writeFold_4 : decode (mcd M_ResidualProgram_writeFold) 4 = .ok (.astore_n 1, 1) := by decide +kernel
theorem d_ResidualProgram_writeFold_5 : decode (mcd M_ResidualProgram_writeFold) 5 = .ok (.aload_n 1, 1) := by decide +kernel
theorem d_ResidualProgram_writeFold_6 : decode (mcd M_ResidualProgram_writeFold) 6 = .ok (.ifnonnull 4, 3) := by decide +kernel
theorem d_ResidualProgram_writeFold_9 : decode (mcd M_ResidualProgram_writeFold) 9 = .ok (.return_, 1) := by decide +kernel
theorem d_ResidualProgram_writeFold_10 : decode (mcd M_ResidualProgram_writeFold) 10 = .ok (.aload_n 0, 1) := by decide +kernel
theorem d_ResidualProgram_writeFold_11 : decode (mcd M_ResidualProgram_writeFold) 11 = .ok (.getfield 21, 3) := by decide +kernel
theorem d_ResidualProgram_writeFold_14 : decode (mcd M_ResidualProgram_writeFold) 14 = .ok (.sipush 300, 3) := by decide +kernel
theorem d_ResidualProgram_writeFold_17 : decode (mcd M_ResidualProgram_writeFold) 17 = .ok (.aload_n 1, 1) := by decide +kernel
theorem d_ResidualProgram_writeFold_18 : decode (mcd M_ResidualProgram_writeFold) 18 = .ok (.getfield 83, 3) := by decide +kernel
theorem d_ResidualProgram_writeFold_21 : decode (mcd M_ResidualProgram_writeFold) 21 = .ok (.iadd, 1) := by decide +kernel
theorem d_ResidualProgram_writeFold_22 : decode (mcd M_ResidualProgram_writeFold) 22 = .ok (.invokevirtual 86, 3) := by decide +kernel
theorem d_ResidualProgram_writeFold_25 : decode (mcd M_ResidualProgram_writeFold) 25 = .ok (.iconst 1, 1) := by decide +kernel
theorem d_ResidualProgram_writeFold_26 : decode (mcd M_ResidualProgram_writeFold) 26 = .ok (.istore_n 2, 1) := by decide +kernel
theorem d_ResidualProgram_writeFold_27 : decode (mcd M_ResidualProgram_writeFold) 27 = .ok (.iload_n 2, 1) := by decide +kernel
theorem d_ResidualProgram_writeFold_28 : decode (mcd M_ResidualProgram_writeFold) 28 = .ok (.aload_n 1, 1) := by decide +kernel
theorem d_ResidualProgram_writeFold_29 : decode (mcd M_ResidualProgram_writeFold) 29 = .ok (.getfield 21, 3) := by decide +kernel
theorem d_ResidualProgram_writeFold_32 : decode (mcd M_ResidualProgram_writeFold) 32 = .ok (.invokevirtual 96, 3) := by decide +kernel
theorem d_ResidualProgram_writeFold_35 : decode (mcd M_ResidualProgram_writeFold) 35 = .ok (.if_icmp .ge 40, 3) := by decide +kernel
theorem d_ResidualProgram_writeFold_38 : decode (mcd M_ResidualProgram_writeFold) 38 = .ok (.aload_n 1, 1) := by decide +kernel
theorem d_ResidualProgram_writeFold_39 : decode (mcd M_ResidualProgram_writeFold) 39 = .ok (.getfield 93, 3) := by decide +kernel
theorem d_ResidualProgram_writeFold_42 : decode (mcd M_ResidualProgram_writeFold) 42 = .ok (.aload_n 1, 1) := by decide +kernel
theorem d_ResidualProgram_writeFold_43 : decode (mcd M_ResidualProgram_writeFold) 43 = .ok (.getfield 21, 3) := by decide +kernel
theorem d_ResidualProgram_writeFold_46 : decode (mcd M_ResidualProgram_writeFold) 46 = .ok (.iload_n 2, 1) := by decide +kernel
theorem d_ResidualProgram_writeFold_47 : decode (mcd M_ResidualProgram_writeFold) 47 = .ok (.invokevirtual 60, 3) := by decide +kernel
theorem d_ResidualProgram_writeFold_50 : decode (mcd M_ResidualProgram_writeFold) 50 = .ok (.invokevirtual 103, 3) := by decide +kernel
theorem d_ResidualProgram_writeFold_53 : decode (mcd M_ResidualProgram_writeFold) 53 = .ok (.istore_n 3, 1) := by decide +kernel
theorem d_ResidualProgram_writeFold_54 : decode (mcd M_ResidualProgram_writeFold) 54 = .ok (.aload_n 0, 1) := by decide +kernel
theorem d_ResidualProgram_writeFold_55 : decode (mcd M_ResidualProgram_writeFold) 55 = .ok (.getfield 21, 3) := by decide +kernel
theorem d_ResidualProgram_writeFold_58 : decode (mcd M_ResidualProgram_writeFold) 58 = .ok (.aload_n 0, 1) := by decide +kernel
theorem d_ResidualProgram_writeFold_59 : decode (mcd M_ResidualProgram_writeFold) 59 = .ok (.getfield 93, 3) := by decide +kernel
theorem d_ResidualProgram_writeFold_62 : decode (mcd M_ResidualProgram_writeFold) 62 = .ok (.iload_n 3, 1) := by decide +kernel
theorem d_ResidualProgram_writeFold_63 : decode (mcd M_ResidualProgram_writeFold) 63 = .ok (.invokevirtual 60, 3) := by decide +kernel
theorem d_ResidualProgram_writeFold_66 : decode (mcd M_ResidualProgram_writeFold) 66 = .ok (.invokevirtual 86, 3) := by decide +kernel
theorem d_ResidualProgram_writeFold_69 : decode (mcd M_ResidualProgram_writeFold) 69 = .ok (.iinc 2 1, 3) := by decide +kernel
theorem d_ResidualProgram_writeFold_72 : decode (mcd M_ResidualProgram_writeFold) 72 = .ok (.goto (-45), 3) := by decide +kernel
theorem d_ResidualProgram_writeFold_75 : decode (mcd M_ResidualProgram_writeFold) 75 = .ok (.return_, 1) := by decide +kernel
theorem d_ResidualProgram_writeInline_0 : decode (mcd M_ResidualProgram_writeInline) 0 = .ok (.aload_n 1, 1) := by decide +kernel
theorem d_ResidualProgram_writeInline_1 : decode (mcd M_ResidualProgram_writeInline) 1 = .ok (.getfield 77, 3) := by decide +kernel
theorem d_ResidualProgram_writeInline_4 : decode (mcd M_ResidualProgram_writeInline) 4 = .ok (.tableswitch 115 1 7 #[44, 71, 93, 115, 58, 100, 107], 44) := by decide +kernel
theorem d_ResidualProgram_writeInline_48 : decode (mcd M_ResidualProgram_writeInline) 48 = .ok (.aload_n 1, 1) := by decide +kernel
theorem d_ResidualProgram_writeInline_49 : decode (mcd M_ResidualProgram_writeInline) 49 = .ok (.getfield 21, 3) := by decide +kernel
theorem d_ResidualProgram_writeInline_52 : decode (mcd M_ResidualProgram_writeInline) 52 = .ok (.aload_n 1, 1) := by decide +kernel
theorem d_ResidualProgram_writeInline_53 : decode (mcd M_ResidualProgram_writeInline) 53 = .ok (.getfield 93, 3) := by decide +kernel
theorem d_ResidualProgram_writeInline_56 : decode (mcd M_ResidualProgram_writeInline) 56 = .ok (.invokevirtual 116, 3) := by decide +kernel
theorem d_ResidualProgram_writeInline_59 : decode (mcd M_ResidualProgram_writeInline) 59 = .ok (.goto 60, 3) := by decide +kernel
theorem d_ResidualProgram_writeInline_62 : decode (mcd M_ResidualProgram_writeInline) 62 = .ok (.aload_n 1, 1) := by decide +kernel
theorem d_ResidualProgram_writeInline_63 : decode (mcd M_ResidualProgram_writeInline) 63 = .ok (.getfield 21, 3) := by decide +kernel
theorem d_ResidualProgram_writeInline_66 : decode (mcd M_ResidualProgram_writeInline) 66 = .ok (.sipush 400, 3) := by decide +kernel
theorem d_ResidualProgram_writeInline_69 : decode (mcd M_ResidualProgram_writeInline) 69 = .ok (.invokevirtual 86, 3) := by decide +kernel
theorem d_ResidualProgram_writeInline_72 : decode (mcd M_ResidualProgram_writeInline) 72 = .ok (.goto 47, 3) := by decide +kernel
theorem d_ResidualProgram_writeInline_75 : decode (mcd M_ResidualProgram_writeInline) 75 = .ok (.aload_n 1, 1) := by decide +kernel
theorem d_ResidualProgram_writeInline_76 : decode (mcd M_ResidualProgram_writeInline) 76 = .ok (.getfield 21, 3) := by decide +kernel
theorem d_ResidualProgram_writeInline_79 : decode (mcd M_ResidualProgram_writeInline) 79 = .ok (.aload_n 1, 1) := by decide +kernel
theorem d_ResidualProgram_writeInline_80 : decode (mcd M_ResidualProgram_writeInline) 80 = .ok (.getfield 93, 3) := by decide +kernel
theorem d_ResidualProgram_writeInline_83 : decode (mcd M_ResidualProgram_writeInline) 83 = .ok (.iconst 0, 1) := by decide +kernel
theorem d_ResidualProgram_writeInline_84 : decode (mcd M_ResidualProgram_writeInline) 84 = .ok (.invokevirtual 60, 3) := by decide +kernel
theorem d_ResidualProgram_writeInline_87 : decode (mcd M_ResidualProgram_writeInline) 87 = .ok (.invokevirtual 86, 3) := by decide +kernel
theorem d_ResidualProgram_writeInline_90 : decode (mcd M_ResidualProgram_writeInline) 90 = .ok (.aload_n 1, 1) := by decide +kernel
theorem d_ResidualProgram_writeInline_91 : decode (mcd M_ResidualProgram_writeInline) 91 = .ok (.invokestatic 120, 3) := by decide +kernel
theorem d_ResidualProgram_writeInline_94 : decode (mcd M_ResidualProgram_writeInline) 94 = .ok (.goto 25, 3) := by decide +kernel
theorem d_ResidualProgram_writeInline_97 : decode (mcd M_ResidualProgram_writeInline) 97 = .ok (.aload_n 1, 1) := by decide +kernel
theorem d_ResidualProgram_writeInline_98 : decode (mcd M_ResidualProgram_writeInline) 98 = .ok (.invokestatic 120, 3) := by decide +kernel
theorem d_ResidualProgram_writeInline_101 : decode (mcd M_ResidualProgram_writeInline) 101 = .ok (.goto 18, 3) := by decide +kernel
theorem d_ResidualProgram_writeInline_104 : decode (mcd M_ResidualProgram_writeInline) 104 = .ok (.aload_n 1, 1) := by decide +kernel
theorem d_ResidualProgram_writeInline_105 : decode (mcd M_ResidualProgram_writeInline) 105 = .ok (.invokestatic 123, 3) := by decide +kernel
theorem d_ResidualProgram_writeInline_108 : decode (mcd M_ResidualProgram_writeInline) 108 = .ok (.goto 11, 3) := by decide +kernel
theorem d_ResidualProgram_writeInline_111 : decode (mcd M_ResidualProgram_writeInline) 111 = .ok (.aload_n 0, 1) := by decide +kernel
theorem d_ResidualProgram_writeInline_112 : decode (mcd M_ResidualProgram_writeInline) 112 = .ok (.aload_n 1, 1) := by decide +kernel
theorem d_ResidualProgram_writeInline_113 : decode (mcd M_ResidualProgram_writeInline) 113 = .ok (.invokevirtual 126, 3) := by decide +kernel
theorem d_ResidualProgram_writeInline_116 : decode (mcd M_ResidualProgram_writeInline) 116 = .ok (.goto 3, 3) := by decide +kernel
theorem d_ResidualProgram_writeInline_119 : decode (mcd M_ResidualProgram_writeInline) 119 = .ok (.return_, 1) := by decide +kernel
theorem d_ResidualProgram_writeLet_0 : decode (mcd M_ResidualProgram_writeLet) 0 = .ok (.aload_n 1, 1) := by decide +kernel
theorem d_ResidualProgram_writeLet_1 : decode (mcd M_ResidualProgram_writeLet) 1 = .ok (.getfield 52, 3) := by decide +kernel
theorem d_ResidualProgram_writeLet_4 : decode (mcd M_ResidualProgram_writeLet) 4 = .ok (.astore_n 2, 1) := by decide +kernel
theorem d_ResidualProgram_writeLet_5 : decode (mcd M_ResidualProgram_writeLet) 5 = .ok (.aload_n 2, 1) := by decide +kernel
theorem d_ResidualProgram_writeLet_6 : decode (mcd M_ResidualProgram_writeLet) 6 = .ok (.ifnonnull 4, 3) := by decide +kernel
theorem d_ResidualProgram_writeLet_9 : decode (mcd M_ResidualProgram_writeLet) 9 = .ok (.return_, 1) := by decide +kernel
theorem d_ResidualProgram_writeLet_10 : decode (mcd M_ResidualProgram_writeLet) 10 = .ok (.aload_n 0, 1) := by decide +kernel
theorem d_ResidualProgram_writeLet_11 : decode (mcd M_ResidualProgram_writeLet) 11 = .ok (.getfield 133, 3) := by decide +kernel
theorem d_ResidualProgram_writeLet_14 : decode (mcd M_ResidualProgram_writeLet) 14 = .ok (.invokevirtual 137, 3) := by decide +kernel
theorem d_ResidualProgram_writeLet_17 : decode (mcd M_ResidualProgram_writeLet) 17 = .ok (.aload_n 1, 1) := by decide +kernel
theorem d_ResidualProgram_writeLet_18 : decode (mcd M_ResidualProgram_writeLet) 18 = .ok (.getfield 142, 3) := by decide +kernel
theorem d_ResidualProgram_writeLet_21 : decode (mcd M_ResidualProgram_writeLet) 21 = .ok (.istore_n 3, 1) := by decide +kernel
theorem d_ResidualProgram_writeLet_22 : decode (mcd M_ResidualProgram_writeLet) 22 = .ok (.aload_n 2, 1) := by decide +kernel
theorem d_ResidualProgram_writeLet_23 : decode (mcd M_ResidualProgram_writeLet) 23 = .ok (.getfield 74, 3) := by decide +kernel
theorem d_ResidualProgram_writeLet_26 : decode (mcd M_ResidualProgram_writeLet) 26 = .ok (.astore 4, 2) := by decide +kernel
theorem d_ResidualProgram_writeLet_28 : decode (mcd M_ResidualProgram_writeLet) 28 = .ok (.aload 4, 2) := by decide +kernel
theorem d_ResidualProgram_writeLet_30 : decode (mcd M_ResidualProgram_writeLet) 30 = .ok (.ifnull 38, 3) := by decide +kernel
theorem d_ResidualProgram_writeLet_33 : decode (mcd M_ResidualProgram_writeLet) 33 = .ok (.aload_n 0, 1) := by decide +kernel
theorem d_ResidualProgram_writeLet_34 : decode (mcd M_ResidualProgram_writeLet) 34 = .ok (.getfield 133, 3) := by decide +kernel
theorem d_ResidualProgram_writeLet_37 : decode (mcd M_ResidualProgram_writeLet) 37 = .ok (.iload_n 3, 1) := by decide +kernel
theorem d_ResidualProgram_writeLet_38 : decode (mcd M_ResidualProgram_writeLet) 38 = .ok (.aload 4, 2) := by decide +kernel
theorem d_ResidualProgram_writeLet_40 : decode (mcd M_ResidualProgram_writeLet) 40 = .ok (.getfield 21, 3) := by decide +kernel
theorem d_ResidualProgram_writeLet_43 : decode (mcd M_ResidualProgram_writeLet) 43 = .ok (.iconst 0, 1) := by decide +kernel
theorem d_ResidualProgram_writeLet_44 : decode (mcd M_ResidualProgram_writeLet) 44 = .ok (.aload 4, 2) := by decide +kernel
theorem d_ResidualProgram_writeLet_46 : decode (mcd M_ResidualProgram_writeLet) 46 = .ok (.getfield 21, 3) := by decide +kernel
theorem d_ResidualProgram_writeLet_49 : decode (mcd M_ResidualProgram_writeLet) 49 = .ok (.invokevirtual 96, 3) := by decide +kernel
theorem d_ResidualProgram_writeLet_52 : decode (mcd M_ResidualProgram_writeLet) 52 = .ok (.invokevirtual 145, 3) := by decide +kernel
theorem d_ResidualProgram_writeLet_55 : decode (mcd M_ResidualProgram_writeLet) 55 = .ok (.iinc 3 1, 3) := by decide +kernel
theorem d_ResidualProgram_writeLet_58 : decode (mcd M_ResidualProgram_writeLet) 58 = .ok (.aload 4, 2) := by decide +kernel
theorem d_ResidualProgram_writeLet_60 : decode (mcd M_ResidualProgram_writeLet) 60 = .ok (.getfield 74, 3) := by decide +kernel
theorem d_ResidualProgram_writeLet_63 : decode (mcd M_ResidualProgram_writeLet) 63 = .ok (.astore 4, 2) := by decide +kernel
theorem d_ResidualProgram_writeLet_65 : decode (mcd M_ResidualProgram_writeLet) 65 = .ok (.goto (-37), 3) := by decide +kernel
theorem d_ResidualProgram_writeLet_68 : decode (mcd M_ResidualProgram_writeLet) 68 = .ok (.aload_n 0, 1) := by decide +kernel
theorem d_ResidualProgram_writeLet_69 : decode (mcd M_ResidualProgram_writeLet) 69 = .ok (.getfield 133, 3) := by decide +kernel
theorem d_ResidualProgram_writeLet_72 : decode (mcd M_ResidualProgram_writeLet) 72 = .ok (.aload_n 2, 1) := by decide +kernel
theorem d_ResidualProgram_writeLet_73 : decode (mcd M_ResidualProgram_writeLet) 73 = .ok (.getfield 21, 3) := by decide +kernel
theorem d_ResidualProgram_writeLet_76 : decode (mcd M_ResidualProgram_writeLet) 76 = .ok (.aload_n 1, 1) := by decide +kernel
theorem d_ResidualProgram_writeLet_77 : decode (mcd M_ResidualProgram_writeLet) 77 = .ok (.getfield 21, 3) := by decide +kernel
theorem d_ResidualProgram_writeLet_80 : decode (mcd M_ResidualProgram_writeLet) 80 = .ok (.invokevirtual 149, 3) := by decide +kernel
theorem d_ResidualProgram_writeLet_83 : decode (mcd M_ResidualProgram_writeLet) 83 = .ok (.return_, 1) := by decide +kernel
theorem d_ResidualProgram_writeOwnCall_0 : decode (mcd M_ResidualProgram_writeOwnCall) 0 = .ok (.aload_n 1, 1) := by decide +kernel
theorem d_ResidualProgram_writeOwnCall_1 : decode (mcd M_ResidualProgram_writeOwnCall) 1 = .ok (.getfield 21, 3) := by decide +kernel
theorem d_ResidualProgram_writeOwnCall_4 : decode (mcd M_ResidualProgram_writeOwnCall) 4 = .ok (.astore_n 2, 1) := by decide +kernel
theorem d_ResidualProgram_writeOwnCall_5 : decode (mcd M_ResidualProgram_writeOwnCall) 5 = .ok (.aload_n 2, 1) := by decide +kernel
theorem d_ResidualProgram_writeOwnCall_6 : decode (mcd M_ResidualProgram_writeOwnCall) 6 = .ok (.sipush 300, 3) := by decide +kernel
theorem d_ResidualProgram_writeOwnCall_9 : decode (mcd M_ResidualProgram_writeOwnCall) 9 = .ok (.aload_n 1, 1) := by decide +kernel
theorem d_ResidualProgram_writeOwnCall_10 : decode (mcd M_ResidualProgram_writeOwnCall) 10 = .ok (.getfield 83, 3) := by decide +kernel
theorem d_ResidualProgram_writeOwnCall_13 : decode (mcd M_ResidualProgram_writeOwnCall) 13 = .ok (.iadd, 1) := by decide +kernel
theorem d_ResidualProgram_writeOwnCall_14 : decode (mcd M_ResidualProgram_writeOwnCall) 14 = .ok (.invokevirtual 86, 3) := by decide +kernel
theorem d_ResidualProgram_writeOwnCall_17 : decode (mcd M_ResidualProgram_writeOwnCall) 17 = .ok (.aload_n 1, 1) := by decide +kernel
theorem d_ResidualProgram_writeOwnCall_18 : decode (mcd M_ResidualProgram_writeOwnCall) 18 = .ok (.getfield 77, 3) := by decide +kernel
theorem d_ResidualProgram_writeOwnCall_21 : decode (mcd M_ResidualProgram_writeOwnCall) 21 = .ok (.iconst 4, 1) := by decide +kernel
theorem d_ResidualProgram_writeOwnCall_22 : decode (mcd M_ResidualProgram_writeOwnCall) 22 = .ok (.if_icmp .ne 11, 3) := by decide +kernel
theorem d_ResidualProgram_writeOwnCall_25 : decode (mcd M_ResidualProgram_writeOwnCall) 25 = .ok (.aload_n 2, 1) := by decide +kernel
theorem d_ResidualProgram_writeOwnCall_26 : decode (mcd M_ResidualProgram_writeOwnCall) 26 = .ok (.aload_n 1, 1) := by decide +kernel
theorem d_ResidualProgram_writeOwnCall_27 : decode (mcd M_ResidualProgram_writeOwnCall) 27 = .ok (.getfield 90, 3) := by decide +kernel
theorem d_ResidualProgram_writeOwnCall_30 : decode (mcd M_ResidualProgram_writeOwnCall) 30 = .ok (.invokevirtual 86, 3) := by decide +kernel
theorem d_ResidualProgram_writeOwnCall_33 : decode (mcd M_ResidualProgram_writeOwnCall) 33 = .ok (.iconst 0, 1) := by decide +kernel
theorem d_ResidualProgram_writeOwnCall_34 : decode (mcd M_ResidualProgram_writeOwnCall) 34 = .ok (.istore_n 3, 1) := by decide +kernel
theorem d_ResidualProgram_writeOwnCall_35 : decode (mcd M_ResidualProgram_writeOwnCall) 35 = .ok (.iload_n 3, 1) := by decide +kernel
theorem d_ResidualProgram_writeOwnCall_36 : decode (mcd M_ResidualProgram_writeOwnCall) 36 = .ok (.aload_n 1, 1) := by decide +kernel
theorem d_ResidualProgram_writeOwnCall_37 : decode (mcd M_ResidualProgram_writeOwnCall) 37 = .ok (.getfield 93, 3) := by decide +kernel
theorem d_ResidualProgram_writeOwnCall_40 : decode (mcd M_ResidualProgram_writeOwnCall) 40 = .ok (.invokevirtual 96, 3) := by decide +kernel
theorem d_ResidualProgram_writeOwnCall_43 : decode (mcd M_ResidualProgram_writeOwnCall) 43 = .ok (.if_icmp .ge 43, 3) := by decide +kernel
theorem d_ResidualProgram_writeOwnCall_46 : decode (mcd M_ResidualProgram_writeOwnCall) 46 = .ok (.aload_n 1, 1) := by decide +kernel
theorem d_ResidualProgram_writeOwnCall_47 : decode (mcd M_ResidualProgram_writeOwnCall) 47 = .ok (.getfield 93, 3) := by decide +kernel
theorem d_ResidualProgram_writeOwnCall_50 : decode (mcd M_ResidualProgram_writeOwnCall) 50 = .ok (.iload_n 3, 1) := by decide +kernel
theorem d_ResidualProgram_writeOwnCall_51 : decode (mcd M_ResidualProgram_writeOwnCall) 51 = .ok (.invokevirtual 60, 3) := by decide +kernel
theorem d_ResidualProgram_writeOwnCall_54 : decode (mcd M_ResidualProgram_writeOwnCall) 54 = .ok (.istore 4, 2) := by decide +kernel
theorem d_ResidualProgram_writeOwnCall_56 : decode (mcd M_ResidualProgram_writeOwnCall) 56 = .ok (.iload 4, 2) := by decide +kernel
theorem d_ResidualProgram_writeOwnCall_58 : decode (mcd M_ResidualProgram_writeOwnCall) 58 = .ok (.invokestatic 99, 3) := by decide +kernel
theorem d_ResidualProgram_writeOwnCall_61 : decode (mcd M_ResidualProgram_writeOwnCall) 61 = .ok (.ifCond .eq 19, 3) := by decide +kernel
theorem d_ResidualProgram_writeOwnCall_64 : decode (mcd M_ResidualProgram_writeOwnCall) 64 = .ok (.aload_n 2, 1) := by decide +kernel
theorem d_ResidualProgram_writeOwnCall_65 : decode (mcd M_ResidualProgram_writeOwnCall) 65 = .ok (.iload 4, 2) := by decide +kernel
theorem d_ResidualProgram_writeOwnCall_67 : decode (mcd M_ResidualProgram_writeOwnCall) 67 = .ok (.invokevirtual 103, 3) := by decide +kernel
theorem d_ResidualProgram_writeOwnCall_70 : decode (mcd M_ResidualProgram_writeOwnCall) 70 = .ok (.iconst (-1), 1) := by decide +kernel
theorem d_ResidualProgram_writeOwnCall_71 : decode (mcd M_ResidualProgram_writeOwnCall) 71 = .ok (.if_icmp .ne 9, 3) := by decide +kernel
theorem d_ResidualProgram_writeOwnCall_74 : decode (mcd M_ResidualProgram_writeOwnCall) 74 = .ok (.aload_n 2, 1) := by decide +kernel
theorem d_ResidualProgram_writeOwnCall_75 : decode (mcd M_ResidualProgram_writeOwnCall) 75 = .ok (.iload 4, 2) := by decide +kernel
theorem d_ResidualProgram_writeOwnCall_77 : decode (mcd M_ResidualProgram_writeOwnCall) 77 = .ok (.invokevirtual 86, 3) := by decide +kernel
theorem d_ResidualProgram_writeOwnCall_80 : decode (mcd M_ResidualProgram_writeOwnCall) 80 = .ok (.iinc 3 1, 3) := by decide +kernel
theorem d_ResidualProgram_writeOwnCall_83 : decode (mcd M_ResidualProgram_writeOwnCall) 83 = .ok (.goto (-48), 3) := by decide +kernel
theorem d_ResidualProgram_writeOwnCall_86 : decode (mcd M_ResidualProgram_writeOwnCall) 86 = .ok (.aload_n 0, 1) := by decide +kernel
theorem d_ResidualProgram_writeOwnCall_87 : decode (mcd M_ResidualProgram_writeOwnCall) 87 = .ok (.getfield 106, 3) := by decide +kernel
theorem d_ResidualProgram_writeOwnCall_90 : decode (mcd M_ResidualProgram_writeOwnCall) 90 = .ok (.sipush 300, 3) := by decide +kernel
theorem d_ResidualProgram_writeOwnCall_93 : decode (mcd M_ResidualProgram_writeOwnCall) 93 = .ok (.aload_n 1, 1) := by decide +kernel
theorem d_ResidualProgram_writeOwnCall_94 : decode (mcd M_ResidualProgram_writeOwnCall) 94 = .ok (.getfield 83, 3) := by decide +kernel
theorem d_ResidualProgram_writeOwnCall_97 : decode (mcd M_ResidualProgram_writeOwnCall) 97 = .ok (.iadd, 1) := by decide +kernel
theorem d_ResidualProgram_writeOwnCall_98 : decode (mcd M_ResidualProgram_writeOwnCall) 98 = .ok (.aload_n 2, 1) := by decide +kernel
theorem d_ResidualProgram_writeOwnCall_99 : decode (mcd M_ResidualProgram_writeOwnCall) 99 = .ok (.invokevirtual 96, 3) := by decide +kernel
theorem d_ResidualProgram_writeOwnCall_102 : decode (mcd M_ResidualProgram_writeOwnCall) 102 = .ok (.iconst 1, 1) := by decide +kernel
theorem d_ResidualProgram_writeOwnCall_103 : decode (mcd M_ResidualProgram_writeOwnCall) 103 = .ok (.isub, 1) := by decide +kernel
theorem d_ResidualProgram_writeOwnCall_104 : decode (mcd M_ResidualProgram_writeOwnCall) 104 = .ok (.aload_n 1, 1) := by decide +kernel
theorem d_ResidualProgram_writeOwnCall_105 : decode (mcd M_ResidualProgram_writeOwnCall) 105 = .ok (.getfield 77, 3) := by decide +kernel
theorem d_ResidualProgram_writeOwnCall_108 : decode (mcd M_ResidualProgram_writeOwnCall) 108 = .ok (.iconst 4, 1) := by decide +kernel
theorem d_ResidualProgram_writeOwnCall_109 : decode (mcd M_ResidualProgram_writeOwnCall) 109 = .ok (.if_icmp .ne 7, 3) := by decide +kernel
theorem d_ResidualProgram_writeOwnCall_112 : decode (mcd M_ResidualProgram_writeOwnCall) 112 = .ok (.iconst 1, 1) := by decide +kernel
theorem d_ResidualProgram_writeOwnCall_113 : decode (mcd M_ResidualProgram_writeOwnCall) 113 = .ok (.goto 4, 3) := by decide +kernel
theorem d_ResidualProgram_writeOwnCall_116 : decode (mcd M_ResidualProgram_writeOwnCall) 116 = .ok (.iconst 0, 1) := by decide +kernel
theorem d_ResidualProgram_writeOwnCall_117 : decode (mcd M_ResidualProgram_writeOwnCall) 117 = .ok (.invokevirtual 110, 3) := by decide +kernel
theorem d_ResidualProgram_writeOwnCall_120 : decode (mcd M_ResidualProgram_writeOwnCall) 120 = .ok (.return_, 1) := by decide +kernel
