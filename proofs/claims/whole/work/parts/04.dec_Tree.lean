theorem d_Tree_init_0 : decode (mcd M_Tree_init) 0 = .ok (.aload_n 0, 1) := by decide +kernel
theorem d_Tree_init_1 : decode (mcd M_Tree_init) 1 = .ok (.invokespecial 3, 3) := by decide +kernel
theorem d_Tree_init_4 : decode (mcd M_Tree_init) 4 = .ok (.aload_n 0, 1) := by decide +kernel
theorem d_Tree_init_5 : decode (mcd M_Tree_init) 5 = .ok (.bipush 48, 2) := by decide +kernel
theorem d_Tree_init_7 : decode (mcd M_Tree_init) 7 = .ok (.anewarray 9, 3) := by decide +kernel
theorem d_Tree_init_10 : decode (mcd M_Tree_init) 10 = .ok (.putfield 11, 3) := by decide +kernel
theorem d_Tree_init_13 : decode (mcd M_Tree_init) 13 = .ok (.aload_n 0, 1) := by decide +kernel
theorem d_Tree_init_14 : decode (mcd M_Tree_init) 14 = .ok (.iconst 0, 1) := by decide +kernel
theorem d_Tree_init_15 : decode (mcd M_Tree_init) 15 = .ok (.putfield 17, 3) := by decide +kernel
theorem d_Tree_init_18 : decode (mcd M_Tree_init) 18 = .ok (.aload_n 0, 1) := by decide +kernel
theorem d_Tree_init_19 : decode (mcd M_Tree_init) 19 = .ok (.bipush 8, 2) := by decide +kernel
theorem d_Tree_init_21 : decode (mcd M_Tree_init) 21 = .ok (.putfield 21, 3) := by decide +kernel
theorem d_Tree_init_24 : decode (mcd M_Tree_init) 24 = .ok (.aload_n 0, 1) := by decide +kernel
theorem d_Tree_init_25 : decode (mcd M_Tree_init) 25 = .ok (.iconst 0, 1) := by decide +kernel
theorem d_Tree_init_26 : decode (mcd M_Tree_init) 26 = .ok (.putfield 24, 3) := by decide +kernel
theorem d_Tree_init_29 : decode (mcd M_Tree_init) 29 = .ok (.iconst 0, 1) := by decide +kernel
theorem d_Tree_init_30 : decode (mcd M_Tree_init) 30 = .ok (.istore_n 1, 1) := by decide +kernel
theorem d_Tree_init_31 : decode (mcd M_Tree_init) 31 = .ok (.iload_n 1, 1) := by decide +kernel
theorem d_Tree_init_32 : decode (mcd M_Tree_init) 32 = .ok (.bipush 48, 2) := by decide +kernel
theorem d_Tree_init_34 : decode (mcd M_Tree_init) 34 = .ok (.if_icmp .ge 23, 3) := by decide +kernel
theorem d_Tree_init_37 : decode (mcd M_Tree_init) 37 = .ok (.aload_n 0, 1) := by decide +kernel
theorem d_Tree_init_38 : decode (mcd M_Tree_init) 38 = .ok (.getfield 11, 3) := by decide +kernel
theorem d_Tree_init_41 : decode (mcd M_Tree_init) 41 = .ok (.iload_n 1, 1) := by decide +kernel
theorem d_Tree_init_42 : decode (mcd M_Tree_init) 42 = .ok (.new 9, 3) := by decide +kernel
theorem d_Tree_init_45 : decode (mcd M_Tree_init) 45 = .ok (.dup, 1) := by decide +kernel
theorem d_Tree_init_46 : decode (mcd M_Tree_init) 46 = .ok (.iload_n 1, 1) := by decide +kernel
theorem d_Tree_init_47 : decode (mcd M_Tree_init) 47 = .ok (.invokespecial 28, 3) := by decide +kernel
theorem d_Tree_init_50 : decode (mcd M_Tree_init) 50 = .ok (.aastore, 1) := by decide +kernel
theorem d_Tree_init_51 : decode (mcd M_Tree_init) 51 = .ok (.iinc 1 1, 3) := by decide +kernel
theorem d_Tree_init_54 : decode (mcd M_Tree_init) 54 = .ok (.goto (-23), 3) := by decide +kernel
theorem d_Tree_init_57 : decode (mcd M_Tree_init) 57 = .ok (.return_, 1) := by decide +kernel
theorem d_Tree_add_0 : decode (mcd M_Tree_add) 0 = .ok (.aload_n 0, 1) := by decide +kernel
theorem d_Tree_add_1 : decode (mcd M_Tree_add) 1 = .ok (.getfield 17, 3) := by decide +kernel
theorem d_Tree_add_4 : decode (mcd M_Tree_add) 4 = .ok (.ifCond .lt 28, 3) := by decide +kernel
theorem d_Tree_add_7 : decode (mcd M_Tree_add) 7 = .ok (.aload_n 0, 1) := by decide +kernel
theorem d_Tree_add_8 : decode (mcd M_Tree_add) 8 = .ok (.getfield 17, 3) := by decide +kernel
theorem d_Tree_add_11 : decode (mcd M_Tree_add) 11 = .ok (.bipush 48, 2) := by decide +kernel
theorem d_Tree_add_13 : decode (mcd M_Tree_add) 13 = .ok (.if_icmp .ge 19, 3) := by decide +kernel
theorem d_Tree_add_16 : decode (mcd M_Tree_add) 16 = .ok (.iload 4, 2) := by decide +kernel
theorem d_Tree_add_18 : decode (mcd M_Tree_add) 18 = .ok (.iload_n 3, 1) := by decide +kernel
theorem d_Tree_add_19 : decode (mcd M_Tree_add) 19 = .ok (.isub, 1) := by decide +kernel
theorem d_Tree_add_20 : decode (mcd M_Tree_add) 20 = .ok (.bipush 40, 2) := by decide +kernel
theorem d_Tree_add_22 : decode (mcd M_Tree_add) 22 = .ok (.if_icmp .gt 10, 3) := by decide +kernel
theorem d_Tree_add_25 : decode (mcd M_Tree_add) 25 = .ok (.aload_n 2, 1) := by decide +kernel
theorem d_Tree_add_26 : decode (mcd M_Tree_add) 26 = .ok (.invokevirtual 31, 3) := by decide +kernel
theorem d_Tree_add_29 : decode (mcd M_Tree_add) 29 = .ok (.ifCond .eq 10, 3) := by decide +kernel
theorem d_Tree_add_32 : decode (mcd M_Tree_add) 32 = .ok (.aload_n 0, 1) := by decide +kernel
theorem d_Tree_add_33 : decode (mcd M_Tree_add) 33 = .ok (.iconst 1, 1) := by decide +kernel
theorem d_Tree_add_34 : decode (mcd M_Tree_add) 34 = .ok (.putfield 24, 3) := by decide +kernel
theorem d_Tree_add_37 : decode (mcd M_Tree_add) 37 = .ok (.aconst_null, 1) := by decide +kernel
theorem d_Tree_add_38 : decode (mcd M_Tree_add) 38 = .ok (.areturn, 1) := by decide +kernel
theorem d_Tree_add_39 : decode (mcd M_Tree_add) 39 = .ok (.aload_n 0, 1) := by decide +kernel
theorem d_Tree_add_40 : decode (mcd M_Tree_add) 40 = .ok (.getfield 11, 3) := by decide +kernel
theorem d_Tree_add_43 : decode (mcd M_Tree_add) 43 = .ok (.aload_n 0, 1) := by decide +kernel
theorem d_Tree_add_44 : decode (mcd M_Tree_add) 44 = .ok (.getfield 17, 3) := by decide +kernel
theorem d_Tree_add_47 : decode (mcd M_Tree_add) 47 = .ok (.aaload, 1) := by decide +kernel
theorem d_Tree_add_48 : decode (mcd M_Tree_add) 48 = .ok (.astore 5, 2) := by decide +kernel
theorem d_Tree_add_50 : decode (mcd M_Tree_add) 50 = .ok (.aload_n 0, 1) := by decide +kernel
theorem d_Tree_add_51 : decode (mcd M_Tree_add) 51 = .ok (.dup, 1) := by decide +kernel
theorem d_Tree_add_52 : decode (mcd M_Tree_add) 52 = .ok (.getfield 17, 3) := by decide +kernel
theorem d_Tree_add_55 : decode (mcd M_Tree_add) 55 = .ok (.iconst 1, 1) := by decide +kernel
theorem d_Tree_add_56 : decode (mcd M_Tree_add) 56 = .ok (.iadd, 1) := by decide +kernel
theorem d_Tree_add_57 : decode (mcd M_Tree_add) 57 = .ok (.putfield 17, 3) := by decide +kernel
theorem d_Tree_add_60 : decode (mcd M_Tree_add) 60 = .ok (.aload 5, 2) := by decide +kernel
theorem d_Tree_add_62 : decode (mcd M_Tree_add) 62 = .ok (.aload_n 1, 1) := by decide +kernel
theorem d_Tree_add_63 : decode (mcd M_Tree_add) 63 = .ok (.aload_n 2, 1) := by decide +kernel
theorem d_Tree_add_64 : decode (mcd M_Tree_add) 64 = .ok (.iload_n 3, 1) := by decide +kernel
theorem d_Tree_add_65 : decode (mcd M_Tree_add) 65 = .ok (.iload 4, 2) := by decide +kernel
theorem d_Tree_add_67 : decode (mcd M_Tree_add) 67 = .ok (.invokevirtual 37, 3) := by decide +kernel
theorem d_Tree_add_70 : decode (mcd M_Tree_add) 70 = .ok (.aload_n 1, 1) := by decide +kernel
theorem d_Tree_add_71 : decode (mcd M_Tree_add) 71 = .ok (.ifnull 9, 3) := by decide +kernel
theorem d_Tree_add_74 : decode (mcd M_Tree_add) 74 = .ok (.aload_n 1, 1) := by decide +kernel
theorem d_Tree_add_75 : decode (mcd M_Tree_add) 75 = .ok (.aload 5, 2) := by decide +kernel
theorem d_Tree_add_77 : decode (mcd M_Tree_add) 77 = .ok (.invokevirtual 41, 3) := by decide +kernel
theorem d_Tree_add_80 : decode (mcd M_Tree_add) 80 = .ok (.aload 5, 2) := by decide +kernel
theorem d_Tree_add_82 : decode (mcd M_Tree_add) 82 = .ok (.areturn, 1) := by decide +kernel
theorem d_Tree_clear_0 : decode (mcd M_Tree_clear) 0 = .ok (.aload_n 0, 1) := by decide +kernel
theorem d_Tree_clear_1 : decode (mcd M_Tree_clear) 1 = .ok (.iconst 0, 1) := by decide +kernel
theorem d_Tree_clear_2 : decode (mcd M_Tree_clear) 2 = .ok (.putfield 17, 3) := by decide +kernel
theorem d_Tree_clear_5 : decode (mcd M_Tree_clear) 5 = .ok (.aload_n 0, 1) := by decide +kernel
theorem d_Tree_clear_6 : decode (mcd M_Tree_clear) 6 = .ok (.bipush 8, 2) := by decide +kernel
theorem d_Tree_clear_8 : decode (mcd M_Tree_clear) 8 = .ok (.putfield 21, 3) := by decide +kernel
theorem d_Tree_clear_11 : decode (mcd M_Tree_clear) 11 = .ok (.aload_n 0, 1) := by decide +kernel
theorem d_Tree_clear_12 : decode (mcd M_Tree_clear) 12 = .ok (.iconst 0, 1) := by decide +kernel
theorem d_Tree_clear_13 : decode (mcd M_Tree_clear) 13 = .ok (.putfield 24, 3) := by decide +kernel
theorem d_Tree_clear_16 : decode (mcd M_Tree_clear) 16 = .ok (.return_, 1) := by decide +kernel
theorem d_Tree_count_0 : decode (mcd M_Tree_count) 0 = .ok (.aload_n 0, 1) := by decide +kernel
theorem d_Tree_count_1 : decode (mcd M_Tree_count) 1 = .ok (.getfield 17, 3) := by decide +kernel
theorem d_Tree_count_4 : decode (mcd M_Tree_count) 4 = .ok (.ireturn, 1) := by decide +kernel
theorem d_Tree_get_0 : decode (mcd M_Tree_get) 0 = .ok (.iload_n 1, 1) := by decide +kernel
theorem d_Tree_get_1 : decode (mcd M_Tree_get) 1 = .ok (.ifCond .lt 26, 3) := by decide +kernel
theorem d_Tree_get_4 : decode (mcd M_Tree_get) 4 = .ok (.iload_n 1, 1) := by decide +kernel
theorem d_Tree_get_5 : decode (mcd M_Tree_get) 5 = .ok (.aload_n 0, 1) := by decide +kernel
theorem d_Tree_get_6 : decode (mcd M_Tree_get) 6 = .ok (.getfield 17, 3) := by decide +kernel
theorem d_Tree_get_9 : decode (mcd M_Tree_get) 9 = .ok (.if_icmp .ge 18, 3) := by decide +kernel
theorem d_Tree_get_12 : decode (mcd M_Tree_get) 12 = .ok (.iload_n 1, 1) := by decide +kernel
theorem d_Tree_get_13 : decode (mcd M_Tree_get) 13 = .ok (.bipush 48, 2) := by decide +kernel
theorem d_Tree_get_15 : decode (mcd M_Tree_get) 15 = .ok (.if_icmp .ge 12, 3) := by decide +kernel
theorem d_Tree_get_18 : decode (mcd M_Tree_get) 18 = .ok (.aload_n 0, 1) := by decide +kernel
theorem d_Tree_get_19 : decode (mcd M_Tree_get) 19 = .ok (.getfield 11, 3) := by decide +kernel
theorem d_Tree_get_22 : decode (mcd M_Tree_get) 22 = .ok (.iload_n 1, 1) := by decide +kernel
theorem d_Tree_get_23 : decode (mcd M_Tree_get) 23 = .ok (.aaload, 1) := by decide +kernel
theorem d_Tree_get_24 : decode (mcd M_Tree_get) 24 = .ok (.goto 4, 3) := by decide +kernel
theorem d_Tree_get_27 : decode (mcd M_Tree_get) 27 = .ok (.aconst_null, 1) := by decide +kernel
theorem d_Tree_get_28 : decode (mcd M_Tree_get) 28 = .ok (.areturn, 1) := by decide +kernel
theorem d_Tree_isTooGreat_0 : decode (mcd M_Tree_isTooGreat) 0 = .ok (.aload_n 0, 1) := by decide +kernel
theorem d_Tree_isTooGreat_1 : decode (mcd M_Tree_isTooGreat) 1 = .ok (.getfield 24, 3) := by decide +kernel
theorem d_Tree_isTooGreat_4 : decode (mcd M_Tree_isTooGreat) 4 = .ok (.ireturn, 1) := by decide +kernel
theorem d_Tree_newVariable_0 : decode (mcd M_Tree_newVariable) 0 = .ok (.aload_n 0, 1) := by decide +kernel
theorem d_Tree_newVariable_1 : decode (mcd M_Tree_newVariable) 1 = .ok (.getfield 21, 3) := by decide +kernel
theorem d_Tree_newVariable_4 : decode (mcd M_Tree_newVariable) 4 = .ok (.bipush 100, 2) := by decide +kernel
theorem d_Tree_newVariable_6 : decode (mcd M_Tree_newVariable) 6 = .ok (.if_icmp .lt 10, 3) := by decide +kernel
theorem d_Tree_newVariable_9 : decode (mcd M_Tree_newVariable) 9 = .ok (.aload_n 0, 1) := by decide +kernel
theorem d_Tree_newVariable_10 : decode (mcd M_Tree_newVariable) 10 = .ok (.iconst 1, 1) := by decide +kernel
theorem d_Tree_newVariable_11 : decode (mcd M_Tree_newVariable) 11 = .ok (.putfield 24, 3) := by decide +kernel
theorem d_Tree_newVariable_14 : decode (mcd M_Tree_newVariable) 14 = .ok (.iconst (-1), 1) := by decide +kernel
theorem d_Tree_newVariable_15 : decode (mcd M_Tree_newVariable) 15 = .ok (.ireturn, 1) := by decide +kernel
theorem d_Tree_newVariable_16 : decode (mcd M_Tree_newVariable) 16 = .ok (.aload_n 0, 1) := by decide +kernel
theorem d_Tree_newVariable_17 : decode (mcd M_Tree_newVariable) 17 = .ok (.dup, 1) := by decide +kernel
theorem d_Tree_newVariable_18 : decode (mcd M_Tree_newVariable) 18 = .ok (.getfield 21, 3) := by decide +kernel
theorem d_Tree_newVariable_21 : decode (mcd M_Tree_newVariable) 21 = .ok (.iconst 1, 1) := by decide +kernel
theorem d_Tree_newVariable_22 : decode (mcd M_Tree_newVariable) 22 = .ok (.iadd, 1) := by decide +kernel
theorem d_Tree_newVariable_23 : decode (mcd M_Tree_newVariable) 23 = .ok (.putfield 21, 3) := by decide +kernel
theorem d_Tree_newVariable_26 : decode (mcd M_Tree_newVariable) 26 = .ok (.aload_n 0, 1) := by decide +kernel
theorem d_Tree_newVariable_27 : decode (mcd M_Tree_newVariable) 27 = .ok (.getfield 21, 3) := by decide +kernel
theorem d_Tree_newVariable_30 : decode (mcd M_Tree_newVariable) 30 = .ok (.iconst 1, 1) := by decide +kernel
theorem d_Tree_newVariable_31 : decode (mcd M_Tree_newVariable) 31 = .ok (.isub, 1) := by decide +kernel
theorem d_Tree_newVariable_32 : decode (mcd M_Tree_newVariable) 32 = .ok (.ireturn, 1) := by decide +kernel
theorem d_Tree_removeBelow_0 : decode (mcd M_Tree_removeBelow) 0 = .ok (.aload_n 1, 1) := by decide +kernel
theorem d_Tree_removeBelow_1 : decode (mcd M_Tree_removeBelow) 1 = .ok (.getfield 45, 3) := by decide +kernel
theorem d_Tree_removeBelow_4 : decode (mcd M_Tree_removeBelow) 4 = .ok (.iconst 1, 1) := by decide +kernel
theorem d_Tree_removeBelow_5 : decode (mcd M_Tree_removeBelow) 5 = .ok (.iadd, 1) := by decide +kernel
theorem d_Tree_removeBelow_6 : decode (mcd M_Tree_removeBelow) 6 = .ok (.istore_n 2, 1) := by decide +kernel
theorem d_Tree_removeBelow_7 : decode (mcd M_Tree_removeBelow) 7 = .ok (.iload_n 2, 1) := by decide +kernel
theorem d_Tree_removeBelow_8 : decode (mcd M_Tree_removeBelow) 8 = .ok (.aload_n 0, 1) := by decide +kernel
theorem d_Tree_removeBelow_9 : decode (mcd M_Tree_removeBelow) 9 = .ok (.getfield 17, 3) := by decide +kernel
theorem d_Tree_removeBelow_12 : decode (mcd M_Tree_removeBelow) 12 = .ok (.if_icmp .ge 33, 3) := by decide +kernel
theorem d_Tree_removeBelow_15 : decode (mcd M_Tree_removeBelow) 15 = .ok (.aload_n 0, 1) := by decide +kernel
theorem d_Tree_removeBelow_16 : decode (mcd M_Tree_removeBelow) 16 = .ok (.iload_n 2, 1) := by decide +kernel
theorem d_Tree_removeBelow_17 : decode (mcd M_Tree_removeBelow) 17 = .ok (.invokevirtual 48, 3) := by decide +kernel
theorem d_Tree_removeBelow_20 : decode (mcd M_Tree_removeBelow) 20 = .ok (.astore_n 3, 1) := by decide +kernel
theorem d_Tree_removeBelow_21 : decode (mcd M_Tree_removeBelow) 21 = .ok (.aload_n 3, 1) := by decide +kernel
theorem d_Tree_removeBelow_22 : decode (mcd M_Tree_removeBelow) 22 = .ok (.ifnull 17, 3) := by decide +kernel
theorem d_Tree_removeBelow_25 : decode (mcd M_Tree_removeBelow) 25 = .ok (.aload_n 3, 1) := by decide +kernel
theorem d_Tree_removeBelow_26 : decode (mcd M_Tree_removeBelow) 26 = .ok (.aload_n 1, 1) := by decide +kernel
theorem d_Tree_removeBelow_27 : decode (mcd M_Tree_removeBelow) 27 = .ok (.invokevirtual 52, 3) := by decide +kernel
theorem d_Tree_removeBelow_30 : decode (mcd M_Tree_removeBelow) 30 = .ok (.ifCond .eq 9, 3) := by decide +kernel
theorem d_Tree_removeBelow_33 : decode (mcd M_Tree_removeBelow) 33 = .ok (.aload_n 3, 1) := by decide +kernel
theorem d_Tree_removeBelow_34 : decode (mcd M_Tree_removeBelow) 34 = .ok (.iconst 0, 1) := by decide +kernel
theorem d_Tree_removeBelow_35 : decode (mcd M_Tree_removeBelow) 35 = .ok (.iconst (-1), 1) := by decide +kernel
theorem d_Tree_removeBelow_36 : decode (mcd M_Tree_removeBelow) 36 = .ok (.invokevirtual 56, 3) := by decide +kernel
theorem d_Tree_removeBelow_39 : decode (mcd M_Tree_removeBelow) 39 = .ok (.iinc 2 1, 3) := by decide +kernel
theorem d_Tree_removeBelow_42 : decode (mcd M_Tree_removeBelow) 42 = .ok (.goto (-35), 3) := by decide +kernel
theorem d_Tree_removeBelow_45 : decode (mcd M_Tree_removeBelow) 45 = .ok (.aload_n 1, 1) := by decide +kernel
theorem d_Tree_removeBelow_46 : decode (mcd M_Tree_removeBelow) 46 = .ok (.invokevirtual 60, 3) := by decide +kernel
theorem d_Tree_removeBelow_49 : decode (mcd M_Tree_removeBelow) 49 = .ok (.return_, 1) := by decide +kernel
