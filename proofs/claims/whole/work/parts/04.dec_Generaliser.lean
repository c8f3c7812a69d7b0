theorem d_Generaliser_init_0 : decode (mcd M_Generaliser_init) 0 = .ok (.aload_n 0, 1) := by decide +kernel
theorem d_Generaliser_init_1 : decode (mcd M_Generaliser_init) 1 = .ok (.invokespecial 3, 3) := by decide +kernel
theorem d_Generaliser_init_4 : decode (mcd M_Generaliser_init) 4 = .ok (.aload_n 0, 1) := by decide +kernel
theorem d_Generaliser_init_5 : decode (mcd M_Generaliser_init) 5 = .ok (.new 9, 3) := by decide +kernel
theorem d_Generaliser_init_8 : decode (mcd M_Generaliser_init) 8 = .ok (.dup, 1) := by decide +kernel
theorem d_Generaliser_init_9 : decode (mcd M_Generaliser_init) 9 = .ok (.bipush 40, 2) := by decide +kernel
theorem d_Generaliser_init_11 : decode (mcd M_Generaliser_init) 11 = .ok (.invokespecial 11, 3) := by decide +kernel
theorem d_Generaliser_init_14 : decode (mcd M_Generaliser_init) 14 = .ok (.putfield 14, 3) := by decide +kernel
theorem d_Generaliser_init_17 : decode (mcd M_Generaliser_init) 17 = .ok (.aload_n 0, 1) := by decide +kernel
theorem d_Generaliser_init_18 : decode (mcd M_Generaliser_init) 18 = .ok (.bipush 40, 2) := by decide +kernel
theorem d_Generaliser_init_20 : decode (mcd M_Generaliser_init) 20 = .ok (.newarray .int, 2) := by decide +kernel
theorem d_Generaliser_init_22 : decode (mcd M_Generaliser_init) 22 = .ok (.putfield 20, 3) := by decide +kernel
theorem d_Generaliser_init_25 : decode (mcd M_Generaliser_init) 25 = .ok (.aload_n 0, 1) := by decide +kernel
theorem d_Generaliser_init_26 : decode (mcd M_Generaliser_init) 26 = .ok (.bipush 40, 2) := by decide +kernel
theorem d_Generaliser_init_28 : decode (mcd M_Generaliser_init) 28 = .ok (.newarray .int, 2) := by decide +kernel
theorem d_Generaliser_init_30 : decode (mcd M_Generaliser_init) 30 = .ok (.putfield 24, 3) := by decide +kernel
theorem d_Generaliser_init_33 : decode (mcd M_Generaliser_init) 33 = .ok (.aload_n 0, 1) := by decide +kernel
theorem d_Generaliser_init_34 : decode (mcd M_Generaliser_init) 34 = .ok (.iconst 0, 1) := by decide +kernel
theorem d_Generaliser_init_35 : decode (mcd M_Generaliser_init) 35 = .ok (.putfield 27, 3) := by decide +kernel
theorem d_Generaliser_init_38 : decode (mcd M_Generaliser_init) 38 = .ok (.aload_n 0, 1) := by decide +kernel
theorem d_Generaliser_init_39 : decode (mcd M_Generaliser_init) 39 = .ok (.iconst (-1), 1) := by decide +kernel
theorem d_Generaliser_init_40 : decode (mcd M_Generaliser_init) 40 = .ok (.putfield 31, 3) := by decide +kernel
theorem d_Generaliser_init_43 : decode (mcd M_Generaliser_init) 43 = .ok (.aload_n 0, 1) := by decide +kernel
theorem d_Generaliser_init_44 : decode (mcd M_Generaliser_init) 44 = .ok (.aload_n 1, 1) := by decide +kernel
theorem d_Generaliser_init_45 : decode (mcd M_Generaliser_init) 45 = .ok (.putfield 34, 3) := by decide +kernel
theorem d_Generaliser_init_48 : decode (mcd M_Generaliser_init) 48 = .ok (.aload_n 0, 1) := by decide +kernel
theorem d_Generaliser_init_49 : decode (mcd M_Generaliser_init) 49 = .ok (.aload_n 2, 1) := by decide +kernel
theorem d_Generaliser_init_50 : decode (mcd M_Generaliser_init) 50 = .ok (.putfield 38, 3) := by decide +kernel
theorem d_Generaliser_init_53 : decode (mcd M_Generaliser_init) 53 = .ok (.return_, 1) := by decide +kernel
theorem d_Generaliser_generalise_0 : decode (mcd M_Generaliser_generalise) 0 = .ok (.aload_n 0, 1) := by decide +kernel
theorem d_Generaliser_generalise_1 : decode (mcd M_Generaliser_generalise) 1 = .ok (.getfield 14, 3) := by decide +kernel
theorem d_Generaliser_generalise_4 : decode (mcd M_Generaliser_generalise) 4 = .ok (.invokevirtual 42, 3) := by decide +kernel
theorem d_Generaliser_generalise_7 : decode (mcd M_Generaliser_generalise) 7 = .ok (.aload_n 0, 1) := by decide +kernel
theorem d_Generaliser_generalise_8 : decode (mcd M_Generaliser_generalise) 8 = .ok (.iconst 0, 1) := by decide +kernel
theorem d_Generaliser_generalise_9 : decode (mcd M_Generaliser_generalise) 9 = .ok (.putfield 27, 3) := by decide +kernel
theorem d_Generaliser_generalise_12 : decode (mcd M_Generaliser_generalise) 12 = .ok (.aload_n 2, 1) := by decide +kernel
theorem d_Generaliser_generalise_13 : decode (mcd M_Generaliser_generalise) 13 = .ok (.getfield 45, 3) := by decide +kernel
theorem d_Generaliser_generalise_16 : decode (mcd M_Generaliser_generalise) 16 = .ok (.iconst 0, 1) := by decide +kernel
theorem d_Generaliser_generalise_17 : decode (mcd M_Generaliser_generalise) 17 = .ok (.invokevirtual 50, 3) := by decide +kernel
theorem d_Generaliser_generalise_20 : decode (mcd M_Generaliser_generalise) 20 = .ok (.aload_n 1, 1) := by decide +kernel
theorem d_Generaliser_generalise_21 : decode (mcd M_Generaliser_generalise) 21 = .ok (.getfield 45, 3) := by decide +kernel
theorem d_Generaliser_generalise_24 : decode (mcd M_Generaliser_generalise) 24 = .ok (.iconst 0, 1) := by decide +kernel
theorem d_Generaliser_generalise_25 : decode (mcd M_Generaliser_generalise) 25 = .ok (.invokevirtual 50, 3) := by decide +kernel
theorem d_Generaliser_generalise_28 : decode (mcd M_Generaliser_generalise) 28 = .ok (.if_icmp .eq 21, 3) := by decide +kernel
theorem d_Generaliser_generalise_31 : decode (mcd M_Generaliser_generalise) 31 = .ok (.aload_n 0, 1) := by decide +kernel
theorem d_Generaliser_generalise_32 : decode (mcd M_Generaliser_generalise) 32 = .ok (.aload_n 1, 1) := by decide +kernel
theorem d_Generaliser_generalise_33 : decode (mcd M_Generaliser_generalise) 33 = .ok (.getfield 45, 3) := by decide +kernel
theorem d_Generaliser_generalise_36 : decode (mcd M_Generaliser_generalise) 36 = .ok (.invokevirtual 54, 3) := by decide +kernel
theorem d_Generaliser_generalise_39 : decode (mcd M_Generaliser_generalise) 39 = .ok (.aload_n 0, 1) := by decide +kernel
theorem d_Generaliser_generalise_40 : decode (mcd M_Generaliser_generalise) 40 = .ok (.aload_n 1, 1) := by decide +kernel
theorem d_Generaliser_generalise_41 : decode (mcd M_Generaliser_generalise) 41 = .ok (.aload_n 0, 1) := by decide +kernel
theorem d_Generaliser_generalise_42 : decode (mcd M_Generaliser_generalise) 42 = .ok (.getfield 24, 3) := by decide +kernel
theorem d_Generaliser_generalise_45 : decode (mcd M_Generaliser_generalise) 45 = .ok (.invokevirtual 58, 3) := by decide +kernel
theorem d_Generaliser_generalise_48 : decode (mcd M_Generaliser_generalise) 48 = .ok (.return_, 1) := by decide +kernel
theorem d_Generaliser_generalise_49 : decode (mcd M_Generaliser_generalise) 49 = .ok (.aload_n 0, 1) := by decide +kernel
theorem d_Generaliser_generalise_50 : decode (mcd M_Generaliser_generalise) 50 = .ok (.aload_n 2, 1) := by decide +kernel
theorem d_Generaliser_generalise_51 : decode (mcd M_Generaliser_generalise) 51 = .ok (.getfield 45, 3) := by decide +kernel
theorem d_Generaliser_generalise_54 : decode (mcd M_Generaliser_generalise) 54 = .ok (.aload_n 1, 1) := by decide +kernel
theorem d_Generaliser_generalise_55 : decode (mcd M_Generaliser_generalise) 55 = .ok (.getfield 45, 3) := by decide +kernel
theorem d_Generaliser_generalise_58 : decode (mcd M_Generaliser_generalise) 58 = .ok (.invokevirtual 62, 3) := by decide +kernel
theorem d_Generaliser_generalise_61 : decode (mcd M_Generaliser_generalise) 61 = .ok (.aload_n 0, 1) := by decide +kernel
theorem d_Generaliser_generalise_62 : decode (mcd M_Generaliser_generalise) 62 = .ok (.getfield 14, 3) := by decide +kernel
theorem d_Generaliser_generalise_65 : decode (mcd M_Generaliser_generalise) 65 = .ok (.aload_n 2, 1) := by decide +kernel
theorem d_Generaliser_generalise_66 : decode (mcd M_Generaliser_generalise) 66 = .ok (.getfield 45, 3) := by decide +kernel
theorem d_Generaliser_generalise_69 : decode (mcd M_Generaliser_generalise) 69 = .ok (.invokevirtual 66, 3) := by decide +kernel
theorem d_Generaliser_generalise_72 : decode (mcd M_Generaliser_generalise) 72 = .ok (.ifCond .eq 15, 3) := by decide +kernel
theorem d_Generaliser_generalise_75 : decode (mcd M_Generaliser_generalise) 75 = .ok (.aload_n 0, 1) := by decide +kernel
theorem d_Generaliser_generalise_76 : decode (mcd M_Generaliser_generalise) 76 = .ok (.aload_n 1, 1) := by decide +kernel
theorem d_Generaliser_generalise_77 : decode (mcd M_Generaliser_generalise) 77 = .ok (.aload_n 0, 1) := by decide +kernel
theorem d_Generaliser_generalise_78 : decode (mcd M_Generaliser_generalise) 78 = .ok (.getfield 24, 3) := by decide +kernel
theorem d_Generaliser_generalise_81 : decode (mcd M_Generaliser_generalise) 81 = .ok (.invokevirtual 58, 3) := by decide +kernel
theorem d_Generaliser_generalise_84 : decode (mcd M_Generaliser_generalise) 84 = .ok (.goto 20, 3) := by decide +kernel
theorem d_Generaliser_generalise_87 : decode (mcd M_Generaliser_generalise) 87 = .ok (.aload_n 0, 1) := by decide +kernel
theorem d_Generaliser_generalise_88 : decode (mcd M_Generaliser_generalise) 88 = .ok (.getfield 38, 3) := by decide +kernel
theorem d_Generaliser_generalise_91 : decode (mcd M_Generaliser_generalise) 91 = .ok (.aload_n 2, 1) := by decide +kernel
theorem d_Generaliser_generalise_92 : decode (mcd M_Generaliser_generalise) 92 = .ok (.invokevirtual 70, 3) := by decide +kernel
theorem d_Generaliser_generalise_95 : decode (mcd M_Generaliser_generalise) 95 = .ok (.aload_n 0, 1) := by decide +kernel
theorem d_Generaliser_generalise_96 : decode (mcd M_Generaliser_generalise) 96 = .ok (.aload_n 2, 1) := by decide +kernel
theorem d_Generaliser_generalise_97 : decode (mcd M_Generaliser_generalise) 97 = .ok (.aload_n 0, 1) := by decide +kernel
theorem d_Generaliser_generalise_98 : decode (mcd M_Generaliser_generalise) 98 = .ok (.getfield 20, 3) := by decide +kernel
theorem d_Generaliser_generalise_101 : decode (mcd M_Generaliser_generalise) 101 = .ok (.invokevirtual 58, 3) := by decide +kernel
theorem d_Generaliser_generalise_104 : decode (mcd M_Generaliser_generalise) 104 = .ok (.return_, 1) := by decide +kernel
theorem d_Generaliser_let_0 : decode (mcd M_Generaliser_let) 0 = .ok (.aload_n 1, 1) := by decide +kernel
theorem d_Generaliser_let_1 : decode (mcd M_Generaliser_let) 1 = .ok (.bipush 7, 2) := by decide +kernel
theorem d_Generaliser_let_3 : decode (mcd M_Generaliser_let) 3 = .ok (.aload_n 0, 1) := by decide +kernel
theorem d_Generaliser_let_4 : decode (mcd M_Generaliser_let) 4 = .ok (.getfield 27, 3) := by decide +kernel
theorem d_Generaliser_let_7 : decode (mcd M_Generaliser_let) 7 = .ok (.invokevirtual 106, 3) := by decide +kernel
theorem d_Generaliser_let_10 : decode (mcd M_Generaliser_let) 10 = .ok (.aload_n 1, 1) := by decide +kernel
theorem d_Generaliser_let_11 : decode (mcd M_Generaliser_let) 11 = .ok (.aload_n 0, 1) := by decide +kernel
theorem d_Generaliser_let_12 : decode (mcd M_Generaliser_let) 12 = .ok (.getfield 31, 3) := by decide +kernel
theorem d_Generaliser_let_15 : decode (mcd M_Generaliser_let) 15 = .ok (.putfield 110, 3) := by decide +kernel
theorem d_Generaliser_let_18 : decode (mcd M_Generaliser_let) 18 = .ok (.aload_n 0, 1) := by decide +kernel
theorem d_Generaliser_let_19 : decode (mcd M_Generaliser_let) 19 = .ok (.getfield 38, 3) := by decide +kernel
theorem d_Generaliser_let_22 : decode (mcd M_Generaliser_let) 22 = .ok (.aload_n 1, 1) := by decide +kernel
theorem d_Generaliser_let_23 : decode (mcd M_Generaliser_let) 23 = .ok (.aload_n 0, 1) := by decide +kernel
theorem d_Generaliser_let_24 : decode (mcd M_Generaliser_let) 24 = .ok (.getfield 14, 3) := by decide +kernel
theorem d_Generaliser_let_27 : decode (mcd M_Generaliser_let) 27 = .ok (.iconst 0, 1) := by decide +kernel
theorem d_Generaliser_let_28 : decode (mcd M_Generaliser_let) 28 = .ok (.aload_n 0, 1) := by decide +kernel
theorem d_Generaliser_let_29 : decode (mcd M_Generaliser_let) 29 = .ok (.getfield 14, 3) := by decide +kernel
theorem d_Generaliser_let_32 : decode (mcd M_Generaliser_let) 32 = .ok (.invokevirtual 92, 3) := by decide +kernel
theorem d_Generaliser_let_35 : decode (mcd M_Generaliser_let) 35 = .ok (.invokevirtual 113, 3) := by decide +kernel
theorem d_Generaliser_let_38 : decode (mcd M_Generaliser_let) 38 = .ok (.pop, 1) := by decide +kernel
theorem d_Generaliser_let_39 : decode (mcd M_Generaliser_let) 39 = .ok (.iconst 0, 1) := by decide +kernel
theorem d_Generaliser_let_40 : decode (mcd M_Generaliser_let) 40 = .ok (.istore_n 3, 1) := by decide +kernel
theorem d_Generaliser_let_41 : decode (mcd M_Generaliser_let) 41 = .ok (.iload_n 3, 1) := by decide +kernel
theorem d_Generaliser_let_42 : decode (mcd M_Generaliser_let) 42 = .ok (.aload_n 0, 1) := by decide +kernel
theorem d_Generaliser_let_43 : decode (mcd M_Generaliser_let) 43 = .ok (.getfield 27, 3) := by decide +kernel
theorem d_Generaliser_let_46 : decode (mcd M_Generaliser_let) 46 = .ok (.if_icmp .ge 45, 3) := by decide +kernel
theorem d_Generaliser_let_49 : decode (mcd M_Generaliser_let) 49 = .ok (.iload_n 3, 1) := by decide +kernel
theorem d_Generaliser_let_50 : decode (mcd M_Generaliser_let) 50 = .ok (.aload_n 2, 1) := by decide +kernel
theorem d_Generaliser_let_51 : decode (mcd M_Generaliser_let) 51 = .ok (.arraylength, 1) := by decide +kernel
theorem d_Generaliser_let_52 : decode (mcd M_Generaliser_let) 52 = .ok (.if_icmp .ge 39, 3) := by decide +kernel
theorem d_Generaliser_let_55 : decode (mcd M_Generaliser_let) 55 = .ok (.aload_n 0, 1) := by decide +kernel
theorem d_Generaliser_let_56 : decode (mcd M_Generaliser_let) 56 = .ok (.getfield 38, 3) := by decide +kernel
theorem d_Generaliser_let_59 : decode (mcd M_Generaliser_let) 59 = .ok (.aload_n 1, 1) := by decide +kernel
theorem d_Generaliser_let_60 : decode (mcd M_Generaliser_let) 60 = .ok (.aload_n 1, 1) := by decide +kernel
theorem d_Generaliser_let_61 : decode (mcd M_Generaliser_let) 61 = .ok (.getfield 45, 3) := by decide +kernel
theorem d_Generaliser_let_64 : decode (mcd M_Generaliser_let) 64 = .ok (.aload_n 2, 1) := by decide +kernel
theorem d_Generaliser_let_65 : decode (mcd M_Generaliser_let) 65 = .ok (.iload_n 3, 1) := by decide +kernel
theorem d_Generaliser_let_66 : decode (mcd M_Generaliser_let) 66 = .ok (.iaload, 1) := by decide +kernel
theorem d_Generaliser_let_67 : decode (mcd M_Generaliser_let) 67 = .ok (.aload_n 0, 1) := by decide +kernel
theorem d_Generaliser_let_68 : decode (mcd M_Generaliser_let) 68 = .ok (.getfield 34, 3) := by decide +kernel
theorem d_Generaliser_let_71 : decode (mcd M_Generaliser_let) 71 = .ok (.aload_n 1, 1) := by decide +kernel
theorem d_Generaliser_let_72 : decode (mcd M_Generaliser_let) 72 = .ok (.getfield 45, 3) := by decide +kernel
theorem d_Generaliser_let_75 : decode (mcd M_Generaliser_let) 75 = .ok (.aload_n 2, 1) := by decide +kernel
theorem d_Generaliser_let_76 : decode (mcd M_Generaliser_let) 76 = .ok (.iload_n 3, 1) := by decide +kernel
theorem d_Generaliser_let_77 : decode (mcd M_Generaliser_let) 77 = .ok (.iaload, 1) := by decide +kernel
theorem d_Generaliser_let_78 : decode (mcd M_Generaliser_let) 78 = .ok (.invokevirtual 88, 3) := by decide +kernel
theorem d_Generaliser_let_81 : decode (mcd M_Generaliser_let) 81 = .ok (.invokevirtual 113, 3) := by decide +kernel
theorem d_Generaliser_let_84 : decode (mcd M_Generaliser_let) 84 = .ok (.pop, 1) := by decide +kernel
theorem d_Generaliser_let_85 : decode (mcd M_Generaliser_let) 85 = .ok (.iinc 3 1, 3) := by decide +kernel
theorem d_Generaliser_let_88 : decode (mcd M_Generaliser_let) 88 = .ok (.goto (-47), 3) := by decide +kernel
theorem d_Generaliser_let_91 : decode (mcd M_Generaliser_let) 91 = .ok (.return_, 1) := by decide +kernel
theorem d_Generaliser_metBefore_0 : decode (mcd M_Generaliser_metBefore) 0 = .ok (.iconst 0, 1) := by decide +kernel
theorem d_Generaliser_metBefore_1 : decode (mcd M_Generaliser_metBefore) 1 = .ok (.istore 7, 2) := by decide +kernel
theorem d_Generaliser_metBefore_3 : decode (mcd M_Generaliser_metBefore) 3 = .ok (.iload 7, 2) := by decide +kernel
theorem d_Generaliser_metBefore_5 : decode (mcd M_Generaliser_metBefore) 5 = .ok (.aload_n 0, 1) := by decide +kernel
theorem d_Generaliser_metBefore_6 : decode (mcd M_Generaliser_metBefore) 6 = .ok (.getfield 27, 3) := by decide +kernel
theorem d_Generaliser_metBefore_9 : decode (mcd M_Generaliser_metBefore) 9 = .ok (.if_icmp .ge 54, 3) := by decide +kernel
theorem d_Generaliser_metBefore_12 : decode (mcd M_Generaliser_metBefore) 12 = .ok (.iload 7, 2) := by decide +kernel
theorem d_Generaliser_metBefore_14 : decode (mcd M_Generaliser_metBefore) 14 = .ok (.bipush 40, 2) := by decide +kernel
theorem d_Generaliser_metBefore_16 : decode (mcd M_Generaliser_metBefore) 16 = .ok (.if_icmp .ge 47, 3) := by decide +kernel
theorem d_Generaliser_metBefore_19 : decode (mcd M_Generaliser_metBefore) 19 = .ok (.aload_n 1, 1) := by decide +kernel
theorem d_Generaliser_metBefore_20 : decode (mcd M_Generaliser_metBefore) 20 = .ok (.iload_n 2, 1) := by decide +kernel
theorem d_Generaliser_metBefore_21 : decode (mcd M_Generaliser_metBefore) 21 = .ok (.iload_n 3, 1) := by decide +kernel
theorem d_Generaliser_metBefore_22 : decode (mcd M_Generaliser_metBefore) 22 = .ok (.aload_n 0, 1) := by decide +kernel
theorem d_Generaliser_metBefore_23 : decode (mcd M_Generaliser_metBefore) 23 = .ok (.getfield 20, 3) := by decide +kernel
theorem d_Generaliser_metBefore_26 : decode (mcd M_Generaliser_metBefore) 26 = .ok (.iload 7, 2) := by decide +kernel
theorem d_Generaliser_metBefore_28 : decode (mcd M_Generaliser_metBefore) 28 = .ok (.iaload, 1) := by decide +kernel
theorem d_Generaliser_metBefore_29 : decode (mcd M_Generaliser_metBefore) 29 = .ok (.invokevirtual 100, 3) := by decide +kernel
theorem d_Generaliser_metBefore_32 : decode (mcd M_Generaliser_metBefore) 32 = .ok (.ifCond .eq 25, 3) := by decide +kernel
theorem d_Generaliser_metBefore_35 : decode (mcd M_Generaliser_metBefore) 35 = .ok (.aload 4, 2) := by decide +kernel
theorem d_Generaliser_metBefore_37 : decode (mcd M_Generaliser_metBefore) 37 = .ok (.iload 5, 2) := by decide +kernel
theorem d_Generaliser_metBefore_39 : decode (mcd M_Generaliser_metBefore) 39 = .ok (.iload 6, 2) := by decide +kernel
theorem d_Generaliser_metBefore_41 : decode (mcd M_Generaliser_metBefore) 41 = .ok (.aload_n 0, 1) := by decide +kernel
theorem d_Generaliser_metBefore_42 : decode (mcd M_Generaliser_metBefore) 42 = .ok (.getfield 24, 3) := by decide +kernel
theorem d_Generaliser_metBefore_45 : decode (mcd M_Generaliser_metBefore) 45 = .ok (.iload 7, 2) := by decide +kernel
theorem d_Generaliser_metBefore_47 : decode (mcd M_Generaliser_metBefore) 47 = .ok (.iaload, 1) := by decide +kernel
theorem d_Generaliser_metBefore_48 : decode (mcd M_Generaliser_metBefore) 48 = .ok (.invokevirtual 100, 3) := by decide +kernel
theorem d_Generaliser_metBefore_51 : decode (mcd M_Generaliser_metBefore) 51 = .ok (.ifCond .eq 6, 3) := by decide +kernel
theorem d_Generaliser_metBefore_54 : decode (mcd M_Generaliser_metBefore) 54 = .ok (.iload 7, 2) := by decide +kernel
theorem d_Generaliser_metBefore_56 : decode (mcd M_Generaliser_metBefore) 56 = .ok (.ireturn, 1) := by decide +kernel
theorem d_Generaliser_metBefore_57 : decode (mcd M_Generaliser_metBefore) 57 = .ok (.iinc 7 1, 3) := by decide +kernel
theorem d_Generaliser_metBefore_60 : decode (mcd M_Generaliser_metBefore) 60 = .ok (.goto (-57), 3) := by decide +kernel
theorem d_Generaliser_metBefore_63 : decode (mcd M_Generaliser_metBefore) 63 = .ok (.iconst (-1), 1) := by decide +kernel
theorem d_Generaliser_metBefore_64 : decode (mcd M_Generaliser_metBefore) 64 = .ok (.ireturn, 1) := by decide +kernel
theorem d_Generaliser_newVariable_0 : decode (mcd M_Generaliser_newVariable) 0 = .ok (.aload_n 0, 1) := by decide +kernel
theorem d_Generaliser_newVariable_1 : decode (mcd M_Generaliser_newVariable) 1 = .ok (.getfield 38, 3) := by decide +kernel
theorem d_Generaliser_newVariable_4 : decode (mcd M_Generaliser_newVariable) 4 = .ok (.invokevirtual 104, 3) := by decide +kernel
theorem d_Generaliser_newVariable_7 : decode (mcd M_Generaliser_newVariable) 7 = .ok (.istore_n 3, 1) := by decide +kernel
theorem d_Generaliser_newVariable_8 : decode (mcd M_Generaliser_newVariable) 8 = .ok (.aload_n 0, 1) := by decide +kernel
theorem d_Generaliser_newVariable_9 : decode (mcd M_Generaliser_newVariable) 9 = .ok (.getfield 27, 3) := by decide +kernel
theorem d_Generaliser_newVariable_12 : decode (mcd M_Generaliser_newVariable) 12 = .ok (.ifCond .ne 8, 3) := by decide +kernel
theorem d_Generaliser_newVariable_15 : decode (mcd M_Generaliser_newVariable) 15 = .ok (.aload_n 0, 1) := by decide +kernel
theorem d_Generaliser_newVariable_16 : decode (mcd M_Generaliser_newVariable) 16 = .ok (.iload_n 3, 1) := by decide +kernel
theorem d_Generaliser_newVariable_17 : decode (mcd M_Generaliser_newVariable) 17 = .ok (.putfield 31, 3) := by decide +kernel
theorem d_Generaliser_newVariable_20 : decode (mcd M_Generaliser_newVariable) 20 = .ok (.aload_n 0, 1) := by decide +kernel
theorem d_Generaliser_newVariable_21 : decode (mcd M_Generaliser_newVariable) 21 = .ok (.getfield 27, 3) := by decide +kernel
theorem d_Generaliser_newVariable_24 : decode (mcd M_Generaliser_newVariable) 24 = .ok (.ifCond .lt 42, 3) := by decide +kernel
theorem d_Generaliser_newVariable_27 : decode (mcd M_Generaliser_newVariable) 27 = .ok (.aload_n 0, 1) := by decide +kernel
theorem d_Generaliser_newVariable_28 : decode (mcd M_Generaliser_newVariable) 28 = .ok (.getfield 27, 3) := by decide +kernel
theorem d_Generaliser_newVariable_31 : decode (mcd M_Generaliser_newVariable) 31 = .ok (.bipush 40, 2) := by decide +kernel
theorem d_Generaliser_newVariable_33 : decode (mcd M_Generaliser_newVariable) 33 = .ok (.if_icmp .ge 33, 3) := by decide +kernel
theorem d_Generaliser_newVariable_36 : decode (mcd M_Generaliser_newVariable) 36 = .ok (.aload_n 0, 1) := by decide +kernel
theorem d_Generaliser_newVariable_37 : decode (mcd M_Generaliser_newVariable) 37 = .ok (.getfield 20, 3) := by decide +kernel
theorem d_Generaliser_newVariable_40 : decode (mcd M_Generaliser_newVariable) 40 = .ok (.aload_n 0, 1) := by decide +kernel
theorem d_Generaliser_newVariable_41 : decode (mcd M_Generaliser_newVariable) 41 = .ok (.getfield 27, 3) := by decide +kernel
theorem d_Generaliser_newVariable_44 : decode (mcd M_Generaliser_newVariable) 44 = .ok (.iload_n 1, 1) := by decide +kernel
theorem d_Generaliser_newVariable_45 : decode (mcd M_Generaliser_newVariable) 45 = .ok (.iastore, 1) := by decide +kernel
theorem d_Generaliser_newVariable_46 : decode (mcd M_Generaliser_newVariable) 46 = .ok (.aload_n 0, 1) := by decide +kernel
theorem d_Generaliser_newVariable_47 : decode (mcd M_Generaliser_newVariable) 47 = .ok (.getfield 24, 3) := by decide +kernel
theorem d_Generaliser_newVariable_50 : decode (mcd M_Generaliser_newVariable) 50 = .ok (.aload_n 0, 1) := by decide +kernel
theorem d_Generaliser_newVariable_51 : decode (mcd M_Generaliser_newVariable) 51 = .ok (.getfield 27, 3) := by decide +kernel
theorem d_Generaliser_newVariable_54 : decode (mcd M_Generaliser_newVariable) 54 = .ok (.iload_n 2, 1) := by decide +kernel
theorem d_Generaliser_newVariable_55 : decode (mcd M_Generaliser_newVariable) 55 = .ok (.iastore, 1) := by decide +kernel
theorem d_Generaliser_newVariable_56 : decode (mcd M_Generaliser_newVariable) 56 = .ok (.aload_n 0, 1) := by decide +kernel
theorem d_Generaliser_newVariable_57 : decode (mcd M_Generaliser_newVariable) 57 = .ok (.dup, 1) := by decide +kernel
theorem d_Generaliser_newVariable_58 : decode (mcd M_Generaliser_newVariable) 58 = .ok (.getfield 27, 3) := by decide +kernel
theorem d_Generaliser_newVariable_61 : decode (mcd M_Generaliser_newVariable) 61 = .ok (.iconst 1, 1) := by decide +kernel
theorem d_Generaliser_newVariable_62 : decode (mcd M_Generaliser_newVariable) 62 = .ok (.iadd, 1) := by decide +kernel
theorem d_Generaliser_newVariable_63 : decode (mcd M_Generaliser_newVariable) 63 = .ok (.putfield 27, 3) := by decide +kernel
theorem d_Generaliser_newVariable_66 : decode (mcd M_Generaliser_newVariable) 66 = .ok (.iload_n 3, 1) := by decide +kernel
theorem d_Generaliser_newVariable_67 : decode (mcd M_Generaliser_newVariable) 67 = .ok (.ireturn, 1) := by decide +kernel
theorem d_Generaliser_takeApart_0 : decode (mcd M_Generaliser_takeApart) 0 = .ok (.aload_n 0, 1) := by decide +kernel
theorem d_Generaliser_takeApart_1 : decode (mcd M_Generaliser_takeApart) 1 = .ok (.getfield 14, 3) := by decide +kernel
theorem d_Generaliser_takeApart_4 : decode (mcd M_Generaliser_takeApart) 4 = .ok (.aload_n 1, 1) := by decide +kernel
theorem d_Generaliser_takeApart_5 : decode (mcd M_Generaliser_takeApart) 5 = .ok (.iconst 0, 1) := by decide +kernel
theorem d_Generaliser_takeApart_6 : decode (mcd M_Generaliser_takeApart) 6 = .ok (.invokevirtual 50, 3) := by decide +kernel
theorem d_Generaliser_takeApart_9 : decode (mcd M_Generaliser_takeApart) 9 = .ok (.invokevirtual 76, 3) := by decide +kernel
theorem d_Generaliser_takeApart_12 : decode (mcd M_Generaliser_takeApart) 12 = .ok (.iconst 1, 1) := by decide +kernel
theorem d_Generaliser_takeApart_13 : decode (mcd M_Generaliser_takeApart) 13 = .ok (.istore_n 2, 1) := by decide +kernel
theorem d_Generaliser_takeApart_14 : decode (mcd M_Generaliser_takeApart) 14 = .ok (.aload_n 0, 1) := by decide +kernel
theorem d_Generaliser_takeApart_15 : decode (mcd M_Generaliser_takeApart) 15 = .ok (.getfield 34, 3) := by decide +kernel
theorem d_Generaliser_takeApart_18 : decode (mcd M_Generaliser_takeApart) 18 = .ok (.aload_n 1, 1) := by decide +kernel
theorem d_Generaliser_takeApart_19 : decode (mcd M_Generaliser_takeApart) 19 = .ok (.iconst 0, 1) := by decide +kernel
theorem d_Generaliser_takeApart_20 : decode (mcd M_Generaliser_takeApart) 20 = .ok (.invokevirtual 50, 3) := by decide +kernel
theorem d_Generaliser_takeApart_23 : decode (mcd M_Generaliser_takeApart) 23 = .ok (.invokevirtual 79, 3) := by decide +kernel
theorem d_Generaliser_takeApart_26 : decode (mcd M_Generaliser_takeApart) 26 = .ok (.istore_n 3, 1) := by decide +kernel
theorem d_Generaliser_takeApart_27 : decode (mcd M_Generaliser_takeApart) 27 = .ok (.iload_n 3, 1) := by decide +kernel
theorem d_Generaliser_takeApart_28 : decode (mcd M_Generaliser_takeApart) 28 = .ok (.ifCond .le 32, 3) := by decide +kernel
theorem d_Generaliser_takeApart_31 : decode (mcd M_Generaliser_takeApart) 31 = .ok (.aload_n 0, 1) := by decide +kernel
theorem d_Generaliser_takeApart_32 : decode (mcd M_Generaliser_takeApart) 32 = .ok (.getfield 14, 3) := by decide +kernel
theorem d_Generaliser_takeApart_35 : decode (mcd M_Generaliser_takeApart) 35 = .ok (.aload_n 0, 1) := by decide +kernel
theorem d_Generaliser_takeApart_36 : decode (mcd M_Generaliser_takeApart) 36 = .ok (.iload_n 2, 1) := by decide +kernel
theorem d_Generaliser_takeApart_37 : decode (mcd M_Generaliser_takeApart) 37 = .ok (.iload_n 2, 1) := by decide +kernel
theorem d_Generaliser_takeApart_38 : decode (mcd M_Generaliser_takeApart) 38 = .ok (.invokevirtual 84, 3) := by decide +kernel
theorem d_Generaliser_takeApart_41 : decode (mcd M_Generaliser_takeApart) 41 = .ok (.invokevirtual 76, 3) := by decide +kernel
theorem d_Generaliser_takeApart_44 : decode (mcd M_Generaliser_takeApart) 44 = .ok (.aload_n 0, 1) := by decide +kernel
theorem d_Generaliser_takeApart_45 : decode (mcd M_Generaliser_takeApart) 45 = .ok (.getfield 34, 3) := by decide +kernel
theorem d_Generaliser_takeApart_48 : decode (mcd M_Generaliser_takeApart) 48 = .ok (.aload_n 1, 1) := by decide +kernel
theorem d_Generaliser_takeApart_49 : decode (mcd M_Generaliser_takeApart) 49 = .ok (.iload_n 2, 1) := by decide +kernel
theorem d_Generaliser_takeApart_50 : decode (mcd M_Generaliser_takeApart) 50 = .ok (.invokevirtual 88, 3) := by decide +kernel
theorem d_Generaliser_takeApart_53 : decode (mcd M_Generaliser_takeApart) 53 = .ok (.istore_n 2, 1) := by decide +kernel
theorem d_Generaliser_takeApart_54 : decode (mcd M_Generaliser_takeApart) 54 = .ok (.iinc 3 (-1), 3) := by decide +kernel
theorem d_Generaliser_takeApart_57 : decode (mcd M_Generaliser_takeApart) 57 = .ok (.goto (-30), 3) := by decide +kernel
theorem d_Generaliser_takeApart_60 : decode (mcd M_Generaliser_takeApart) 60 = .ok (.return_, 1) := by decide +kernel
theorem d_Generaliser_takeCommon_0 : decode (mcd M_Generaliser_takeCommon) 0 = .ok (.iconst 0, 1) := by decide +kernel
theorem d_Generaliser_takeCommon_1 : decode (mcd M_Generaliser_takeCommon) 1 = .ok (.istore_n 3, 1) := by decide +kernel
theorem d_Generaliser_takeCommon_2 : decode (mcd M_Generaliser_takeCommon) 2 = .ok (.iconst 0, 1) := by decide +kernel
theorem d_Generaliser_takeCommon_3 : decode (mcd M_Generaliser_takeCommon) 3 = .ok (.istore 4, 2) := by decide +kernel
theorem d_Generaliser_takeCommon_5 : decode (mcd M_Generaliser_takeCommon) 5 = .ok (.iconst 0, 1) := by decide +kernel
theorem d_Generaliser_takeCommon_6 : decode (mcd M_Generaliser_takeCommon) 6 = .ok (.istore 5, 2) := by decide +kernel
theorem d_Generaliser_takeCommon_8 : decode (mcd M_Generaliser_takeCommon) 8 = .ok (.iload 5, 2) := by decide +kernel
theorem d_Generaliser_takeCommon_10 : decode (mcd M_Generaliser_takeCommon) 10 = .ok (.bipush 40, 2) := by decide +kernel
theorem d_Generaliser_takeCommon_12 : decode (mcd M_Generaliser_takeCommon) 12 = .ok (.if_icmp .ge 127, 3) := by decide +kernel
theorem d_Generaliser_takeCommon_15 : decode (mcd M_Generaliser_takeCommon) 15 = .ok (.iload_n 3, 1) := by decide +kernel
theorem d_Generaliser_takeCommon_16 : decode (mcd M_Generaliser_takeCommon) 16 = .ok (.aload_n 1, 1) := by decide +kernel
theorem d_Generaliser_takeCommon_17 : decode (mcd M_Generaliser_takeCommon) 17 = .ok (.invokevirtual 92, 3) := by decide +kernel
theorem d_Generaliser_takeCommon_20 : decode (mcd M_Generaliser_takeCommon) 20 = .ok (.if_icmp .ge 119, 3) := by decide +kernel
theorem d_Generaliser_takeCommon_23 : decode (mcd M_Generaliser_takeCommon) 23 = .ok (.aload_n 1, 1) := by decide +kernel
theorem d_Generaliser_takeCommon_24 : decode (mcd M_Generaliser_takeCommon) 24 = .ok (.iload_n 3, 1) := by decide +kernel
theorem d_Generaliser_takeCommon_25 : decode (mcd M_Generaliser_takeCommon) 25 = .ok (.invokevirtual 50, 3) := by decide +kernel
theorem d_Generaliser_takeCommon_28 : decode (mcd M_Generaliser_takeCommon) 28 = .ok (.aload_n 2, 1) := by decide +kernel
theorem d_Generaliser_takeCommon_29 : decode (mcd M_Generaliser_takeCommon) 29 = .ok (.iload 4, 2) := by decide +kernel
theorem d_Generaliser_takeCommon_31 : decode (mcd M_Generaliser_takeCommon) 31 = .ok (.invokevirtual 50, 3) := by decide +kernel
theorem d_Generaliser_takeCommon_34 : decode (mcd M_Generaliser_takeCommon) 34 = .ok (.if_icmp .ne 24, 3) := by decide +kernel
theorem d_Generaliser_takeCommon_37 : decode (mcd M_Generaliser_takeCommon) 37 = .ok (.aload_n 0, 1) := by decide +kernel
theorem d_Generaliser_takeCommon_38 : decode (mcd M_Generaliser_takeCommon) 38 = .ok (.getfield 14, 3) := by decide +kernel
theorem d_Generaliser_takeCommon_41 : decode (mcd M_Generaliser_takeCommon) 41 = .ok (.aload_n 1, 1) := by decide +kernel
theorem d_Generaliser_takeCommon_42 : decode (mcd M_Generaliser_takeCommon) 42 = .ok (.iload_n 3, 1) := by decide +kernel
theorem d_Generaliser_takeCommon_43 : decode (mcd M_Generaliser_takeCommon) 43 = .ok (.invokevirtual 50, 3) := by decide +kernel
theorem d_Generaliser_takeCommon_46 : decode (mcd M_Generaliser_takeCommon) 46 = .ok (.invokevirtual 76, 3) := by decide +kernel
theorem d_Generaliser_takeCommon_49 : decode (mcd M_Generaliser_takeCommon) 49 = .ok (.iinc 3 1, 3) := by decide +kernel
theorem d_Generaliser_takeCommon_52 : decode (mcd M_Generaliser_takeCommon) 52 = .ok (.iinc 4 1, 3) := by decide +kernel
theorem d_Generaliser_takeCommon_55 : decode (mcd M_Generaliser_takeCommon) 55 = .ok (.goto 78, 3) := by decide +kernel
theorem d_Generaliser_takeCommon_58 : decode (mcd M_Generaliser_takeCommon) 58 = .ok (.aload_n 0, 1) := by decide +kernel
theorem d_Generaliser_takeCommon_59 : decode (mcd M_Generaliser_takeCommon) 59 = .ok (.getfield 34, 3) := by decide +kernel
theorem d_Generaliser_takeCommon_62 : decode (mcd M_Generaliser_takeCommon) 62 = .ok (.aload_n 1, 1) := by decide +kernel
theorem d_Generaliser_takeCommon_63 : decode (mcd M_Generaliser_takeCommon) 63 = .ok (.iload_n 3, 1) := by decide +kernel
theorem d_Generaliser_takeCommon_64 : decode (mcd M_Generaliser_takeCommon) 64 = .ok (.invokevirtual 88, 3) := by decide +kernel
theorem d_Generaliser_takeCommon_67 : decode (mcd M_Generaliser_takeCommon) 67 = .ok (.istore 6, 2) := by decide +kernel
theorem d_Generaliser_takeCommon_69 : decode (mcd M_Generaliser_takeCommon) 69 = .ok (.aload_n 0, 1) := by decide +kernel
theorem d_Generaliser_takeCommon_70 : decode (mcd M_Generaliser_takeCommon) 70 = .ok (.getfield 34, 3) := by decide +kernel
theorem d_Generaliser_takeCommon_73 : decode (mcd M_Generaliser_takeCommon) 73 = .ok (.aload_n 2, 1) := by decide +kernel
theorem d_Generaliser_takeCommon_74 : decode (mcd M_Generaliser_takeCommon) 74 = .ok (.iload 4, 2) := by decide +kernel
theorem d_Generaliser_takeCommon_76 : decode (mcd M_Generaliser_takeCommon) 76 = .ok (.invokevirtual 88, 3) := by decide +kernel
theorem d_Generaliser_takeCommon_79 : decode (mcd M_Generaliser_takeCommon) 79 = .ok (.istore 7, 2) := by decide +kernel
theorem d_Generaliser_takeCommon_81 : decode (mcd M_Generaliser_takeCommon) 81 = .ok (.aload_n 0, 1) := by decide +kernel
theorem d_Generaliser_takeCommon_82 : decode (mcd M_Generaliser_takeCommon) 82 = .ok (.aload_n 1, 1) := by decide +kernel
theorem d_Generaliser_takeCommon_83 : decode (mcd M_Generaliser_takeCommon) 83 = .ok (.iload_n 3, 1) := by decide +kernel
theorem d_Generaliser_takeCommon_84 : decode (mcd M_Generaliser_takeCommon) 84 = .ok (.iload 6, 2) := by decide +kernel
theorem d_Generaliser_takeCommon_86 : decode (mcd M_Generaliser_takeCommon) 86 = .ok (.aload_n 2, 1) := by decide +kernel
theorem d_Generaliser_takeCommon_87 : decode (mcd M_Generaliser_takeCommon) 87 = .ok (.iload 4, 2) := by decide +kernel
theorem d_Generaliser_takeCommon_89 : decode (mcd M_Generaliser_takeCommon) 89 = .ok (.iload 7, 2) := by decide +kernel
theorem d_Generaliser_takeCommon_91 : decode (mcd M_Generaliser_takeCommon) 91 = .ok (.invokevirtual 96, 3) := by decide +kernel
theorem d_Generaliser_takeCommon_94 : decode (mcd M_Generaliser_takeCommon) 94 = .ok (.istore 8, 2) := by decide +kernel
theorem d_Generaliser_takeCommon_96 : decode (mcd M_Generaliser_takeCommon) 96 = .ok (.aload_n 0, 1) := by decide +kernel
theorem d_Generaliser_takeCommon_97 : decode (mcd M_Generaliser_takeCommon) 97 = .ok (.getfield 14, 3) := by decide +kernel
theorem d_Generaliser_takeCommon_100 : decode (mcd M_Generaliser_takeCommon) 100 = .ok (.iload 8, 2) := by decide +kernel
theorem d_Generaliser_takeCommon_102 : decode (mcd M_Generaliser_takeCommon) 102 = .ok (.iconst (-1), 1) := by decide +kernel
theorem d_Generaliser_takeCommon_103 : decode (mcd M_Generaliser_takeCommon) 103 = .ok (.if_icmp .ne 13, 3) := by decide +kernel
theorem d_Generaliser_takeCommon_106 : decode (mcd M_Generaliser_takeCommon) 106 = .ok (.aload_n 0, 1) := by decide +kernel
theorem d_Generaliser_takeCommon_107 : decode (mcd M_Generaliser_takeCommon) 107 = .ok (.iload_n 3, 1) := by decide +kernel
theorem d_Generaliser_takeCommon_108 : decode (mcd M_Generaliser_takeCommon) 108 = .ok (.iload 4, 2) := by decide +kernel
theorem d_Generaliser_takeCommon_110 : decode (mcd M_Generaliser_takeCommon) 110 = .ok (.invokevirtual 84, 3) := by decide +kernel
theorem d_Generaliser_takeCommon_113 : decode (mcd M_Generaliser_takeCommon) 113 = .ok (.goto 10, 3) := by decide +kernel
theorem d_Generaliser_takeCommon_116 : decode (mcd M_Generaliser_takeCommon) 116 = .ok (.aload_n 0, 1) := by decide +kernel
theorem d_Generaliser_takeCommon_117 : decode (mcd M_Generaliser_takeCommon) 117 = .ok (.getfield 31, 3) := by decide +kernel
theorem d_Generaliser_takeCommon_120 : decode (mcd M_Generaliser_takeCommon) 120 = .ok (.iload 8, 2) := by decide +kernel
theorem d_Generaliser_takeCommon_122 : decode (mcd M_Generaliser_takeCommon) 122 = .ok (.iadd, 1) := by decide +kernel
theorem d_Generaliser_takeCommon_123 : decode (mcd M_Generaliser_takeCommon) 123 = .ok (.invokevirtual 76, 3) := by decide +kernel
theorem d_Generaliser_takeCommon_126 : decode (mcd M_Generaliser_takeCommon) 126 = .ok (.iload 6, 2) := by decide +kernel
theorem d_Generaliser_takeCommon_128 : decode (mcd M_Generaliser_takeCommon) 128 = .ok (.istore_n 3, 1) := by decide +kernel
theorem d_Generaliser_takeCommon_129 : decode (mcd M_Generaliser_takeCommon) 129 = .ok (.iload 7, 2) := by decide +kernel
theorem d_Generaliser_takeCommon_131 : decode (mcd M_Generaliser_takeCommon) 131 = .ok (.istore 4, 2) := by decide +kernel
theorem d_Generaliser_takeCommon_133 : decode (mcd M_Generaliser_takeCommon) 133 = .ok (.iinc 5 1, 3) := by decide +kernel
theorem d_Generaliser_takeCommon_136 : decode (mcd M_Generaliser_takeCommon) 136 = .ok (.goto (-128), 3) := by decide +kernel
theorem d_Generaliser_takeCommon_139 : decode (mcd M_Generaliser_takeCommon) 139 = .ok (.return_, 1) := by decide +kernel
