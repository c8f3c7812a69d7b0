theorem d_Runner_init_0 : decode (mcd M_Runner_init) 0 = .ok (.aload_n 0, 1) := by decide +kernel
theorem d_Runner_init_1 : decode (mcd M_Runner_init) 1 = .ok (.invokespecial 3, 3) := by decide +kernel
theorem d_Runner_init_4 : decode (mcd M_Runner_init) 4 = .ok (.aload_n 0, 1) := by decide +kernel
theorem d_Runner_init_5 : decode (mcd M_Runner_init) 5 = .ok (.new 9, 3) := by decide +kernel
theorem d_Runner_init_8 : decode (mcd M_Runner_init) 8 = .ok (.dup, 1) := by decide +kernel
theorem d_Runner_init_9 : decode (mcd M_Runner_init) 9 = .ok (.sipush 200, 3) := by decide +kernel
theorem d_Runner_init_12 : decode (mcd M_Runner_init) 12 = .ok (.invokespecial 11, 3) := by decide +kernel
theorem d_Runner_init_15 : decode (mcd M_Runner_init) 15 = .ok (.putfield 14, 3) := by decide +kernel
theorem d_Runner_init_18 : decode (mcd M_Runner_init) 18 = .ok (.aload_n 0, 1) := by decide +kernel
theorem d_Runner_init_19 : decode (mcd M_Runner_init) 19 = .ok (.new 9, 3) := by decide +kernel
theorem d_Runner_init_22 : decode (mcd M_Runner_init) 22 = .ok (.dup, 1) := by decide +kernel
theorem d_Runner_init_23 : decode (mcd M_Runner_init) 23 = .ok (.sipush 200, 3) := by decide +kernel
theorem d_Runner_init_26 : decode (mcd M_Runner_init) 26 = .ok (.invokespecial 11, 3) := by decide +kernel
theorem d_Runner_init_29 : decode (mcd M_Runner_init) 29 = .ok (.putfield 20, 3) := by decide +kernel
theorem d_Runner_init_32 : decode (mcd M_Runner_init) 32 = .ok (.aload_n 0, 1) := by decide +kernel
theorem d_Runner_init_33 : decode (mcd M_Runner_init) 33 = .ok (.iconst (-1), 1) := by decide +kernel
theorem d_Runner_init_34 : decode (mcd M_Runner_init) 34 = .ok (.putfield 23, 3) := by decide +kernel
theorem d_Runner_init_37 : decode (mcd M_Runner_init) 37 = .ok (.aload_n 0, 1) := by decide +kernel
theorem d_Runner_init_38 : decode (mcd M_Runner_init) 38 = .ok (.iconst 0, 1) := by decide +kernel
theorem d_Runner_init_39 : decode (mcd M_Runner_init) 39 = .ok (.putfield 27, 3) := by decide +kernel
theorem d_Runner_init_42 : decode (mcd M_Runner_init) 42 = .ok (.aload_n 0, 1) := by decide +kernel
theorem d_Runner_init_43 : decode (mcd M_Runner_init) 43 = .ok (.aload_n 1, 1) := by decide +kernel
theorem d_Runner_init_44 : decode (mcd M_Runner_init) 44 = .ok (.putfield 30, 3) := by decide +kernel
theorem d_Runner_init_47 : decode (mcd M_Runner_init) 47 = .ok (.aload_n 0, 1) := by decide +kernel
theorem d_Runner_init_48 : decode (mcd M_Runner_init) 48 = .ok (.aload_n 2, 1) := by decide +kernel
theorem d_Runner_init_49 : decode (mcd M_Runner_init) 49 = .ok (.putfield 34, 3) := by decide +kernel
theorem d_Runner_init_52 : decode (mcd M_Runner_init) 52 = .ok (.return_, 1) := by decide +kernel
theorem d_Runner_begin_0 : decode (mcd M_Runner_begin) 0 = .ok (.aload_n 0, 1) := by decide +kernel
theorem d_Runner_begin_1 : decode (mcd M_Runner_begin) 1 = .ok (.getfield 34, 3) := by decide +kernel
theorem d_Runner_begin_4 : decode (mcd M_Runner_begin) 4 = .ok (.invokevirtual 38, 3) := by decide +kernel
theorem d_Runner_begin_7 : decode (mcd M_Runner_begin) 7 = .ok (.iconst 0, 1) := by decide +kernel
theorem d_Runner_begin_8 : decode (mcd M_Runner_begin) 8 = .ok (.istore_n 3, 1) := by decide +kernel
theorem d_Runner_begin_9 : decode (mcd M_Runner_begin) 9 = .ok (.iload_n 3, 1) := by decide +kernel
theorem d_Runner_begin_10 : decode (mcd M_Runner_begin) 10 = .ok (.aload_n 2, 1) := by decide +kernel
theorem d_Runner_begin_11 : decode (mcd M_Runner_begin) 11 = .ok (.arraylength, 1) := by decide +kernel
theorem d_Runner_begin_12 : decode (mcd M_Runner_begin) 12 = .ok (.if_icmp .ge 33, 3) := by decide +kernel
theorem d_Runner_begin_15 : decode (mcd M_Runner_begin) 15 = .ok (.aload_n 2, 1) := by decide +kernel
theorem d_Runner_begin_16 : decode (mcd M_Runner_begin) 16 = .ok (.iload_n 3, 1) := by decide +kernel
theorem d_Runner_begin_17 : decode (mcd M_Runner_begin) 17 = .ok (.aaload, 1) := by decide +kernel
theorem d_Runner_begin_18 : decode (mcd M_Runner_begin) 18 = .ok (.ifnull 21, 3) := by decide +kernel
theorem d_Runner_begin_21 : decode (mcd M_Runner_begin) 21 = .ok (.aload_n 0, 1) := by decide +kernel
theorem d_Runner_begin_22 : decode (mcd M_Runner_begin) 22 = .ok (.getfield 34, 3) := by decide +kernel
theorem d_Runner_begin_25 : decode (mcd M_Runner_begin) 25 = .ok (.iload_n 3, 1) := by decide +kernel
theorem d_Runner_begin_26 : decode (mcd M_Runner_begin) 26 = .ok (.aload_n 2, 1) := by decide +kernel
theorem d_Runner_begin_27 : decode (mcd M_Runner_begin) 27 = .ok (.iload_n 3, 1) := by decide +kernel
theorem d_Runner_begin_28 : decode (mcd M_Runner_begin) 28 = .ok (.aaload, 1) := by decide +kernel
theorem d_Runner_begin_29 : decode (mcd M_Runner_begin) 29 = .ok (.iconst 0, 1) := by decide +kernel
theorem d_Runner_begin_30 : decode (mcd M_Runner_begin) 30 = .ok (.aload_n 2, 1) := by decide +kernel
theorem d_Runner_begin_31 : decode (mcd M_Runner_begin) 31 = .ok (.iload_n 3, 1) := by decide +kernel
theorem d_Runner_begin_32 : decode (mcd M_Runner_begin) 32 = .ok (.aaload, 1) := by decide +kernel
theorem d_Runner_begin_33 : decode (mcd M_Runner_begin) 33 = .ok (.invokevirtual 43, 3) := by decide +kernel
theorem d_Runner_begin_36 : decode (mcd M_Runner_begin) 36 = .ok (.invokevirtual 47, 3) := by decide +kernel
theorem d_Runner_begin_39 : decode (mcd M_Runner_begin) 39 = .ok (.iinc 3 1, 3) := by decide +kernel
theorem d_Runner_begin_42 : decode (mcd M_Runner_begin) 42 = .ok (.goto (-33), 3) := by decide +kernel
theorem d_Runner_begin_45 : decode (mcd M_Runner_begin) 45 = .ok (.aload_n 0, 1) := by decide +kernel
theorem d_Runner_begin_46 : decode (mcd M_Runner_begin) 46 = .ok (.getfield 14, 3) := by decide +kernel
theorem d_Runner_begin_49 : decode (mcd M_Runner_begin) 49 = .ok (.invokevirtual 51, 3) := by decide +kernel
theorem d_Runner_begin_52 : decode (mcd M_Runner_begin) 52 = .ok (.aload_n 0, 1) := by decide +kernel
theorem d_Runner_begin_53 : decode (mcd M_Runner_begin) 53 = .ok (.getfield 34, 3) := by decide +kernel
theorem d_Runner_begin_56 : decode (mcd M_Runner_begin) 56 = .ok (.aload_n 1, 1) := by decide +kernel
theorem d_Runner_begin_57 : decode (mcd M_Runner_begin) 57 = .ok (.aload_n 0, 1) := by decide +kernel
theorem d_Runner_begin_58 : decode (mcd M_Runner_begin) 58 = .ok (.getfield 14, 3) := by decide +kernel
theorem d_Runner_begin_61 : decode (mcd M_Runner_begin) 61 = .ok (.invokevirtual 54, 3) := by decide +kernel
theorem d_Runner_begin_64 : decode (mcd M_Runner_begin) 64 = .ok (.return_, 1) := by decide +kernel
theorem d_Runner_clear_0 : decode (mcd M_Runner_clear) 0 = .ok (.aload_n 0, 1) := by decide +kernel
theorem d_Runner_clear_1 : decode (mcd M_Runner_clear) 1 = .ok (.iconst (-1), 1) := by decide +kernel
theorem d_Runner_clear_2 : decode (mcd M_Runner_clear) 2 = .ok (.putfield 23, 3) := by decide +kernel
theorem d_Runner_clear_5 : decode (mcd M_Runner_clear) 5 = .ok (.aload_n 0, 1) := by decide +kernel
theorem d_Runner_clear_6 : decode (mcd M_Runner_clear) 6 = .ok (.iconst 0, 1) := by decide +kernel
theorem d_Runner_clear_7 : decode (mcd M_Runner_clear) 7 = .ok (.putfield 27, 3) := by decide +kernel
theorem d_Runner_clear_10 : decode (mcd M_Runner_clear) 10 = .ok (.return_, 1) := by decide +kernel
theorem d_Runner_constructorAt_0 : decode (mcd M_Runner_constructorAt) 0 = .ok (.aload_n 0, 1) := by decide +kernel
theorem d_Runner_constructorAt_1 : decode (mcd M_Runner_constructorAt) 1 = .ok (.getfield 23, 3) := by decide +kernel
theorem d_Runner_constructorAt_4 : decode (mcd M_Runner_constructorAt) 4 = .ok (.ifCond .eq 5, 3) := by decide +kernel
theorem d_Runner_constructorAt_7 : decode (mcd M_Runner_constructorAt) 7 = .ok (.iconst (-1), 1) := by decide +kernel
theorem d_Runner_constructorAt_8 : decode (mcd M_Runner_constructorAt) 8 = .ok (.ireturn, 1) := by decide +kernel
theorem d_Runner_constructorAt_9 : decode (mcd M_Runner_constructorAt) 9 = .ok (.iload_n 1, 1) := by decide +kernel
theorem d_Runner_constructorAt_10 : decode (mcd M_Runner_constructorAt) 10 = .ok (.iconst (-1), 1) := by decide +kernel
theorem d_Runner_constructorAt_11 : decode (mcd M_Runner_constructorAt) 11 = .ok (.if_icmp .ne 11, 3) := by decide +kernel
theorem d_Runner_constructorAt_14 : decode (mcd M_Runner_constructorAt) 14 = .ok (.aload_n 0, 1) := by decide +kernel
theorem d_Runner_constructorAt_15 : decode (mcd M_Runner_constructorAt) 15 = .ok (.getfield 14, 3) := by decide +kernel
theorem d_Runner_constructorAt_18 : decode (mcd M_Runner_constructorAt) 18 = .ok (.invokevirtual 43, 3) := by decide +kernel
theorem d_Runner_constructorAt_21 : decode (mcd M_Runner_constructorAt) 21 = .ok (.ireturn, 1) := by decide +kernel
theorem d_Runner_constructorAt_22 : decode (mcd M_Runner_constructorAt) 22 = .ok (.aload_n 0, 1) := by decide +kernel
theorem d_Runner_constructorAt_23 : decode (mcd M_Runner_constructorAt) 23 = .ok (.getfield 14, 3) := by decide +kernel
theorem d_Runner_constructorAt_26 : decode (mcd M_Runner_constructorAt) 26 = .ok (.iload_n 1, 1) := by decide +kernel
theorem d_Runner_constructorAt_27 : decode (mcd M_Runner_constructorAt) 27 = .ok (.invokevirtual 74, 3) := by decide +kernel
theorem d_Runner_constructorAt_30 : decode (mcd M_Runner_constructorAt) 30 = .ok (.invokestatic 78, 3) := by decide +kernel
theorem d_Runner_constructorAt_33 : decode (mcd M_Runner_constructorAt) 33 = .ok (.ifCond .eq 17, 3) := by decide +kernel
theorem d_Runner_constructorAt_36 : decode (mcd M_Runner_constructorAt) 36 = .ok (.aload_n 0, 1) := by decide +kernel
theorem d_Runner_constructorAt_37 : decode (mcd M_Runner_constructorAt) 37 = .ok (.getfield 14, 3) := by decide +kernel
theorem d_Runner_constructorAt_40 : decode (mcd M_Runner_constructorAt) 40 = .ok (.iload_n 1, 1) := by decide +kernel
theorem d_Runner_constructorAt_41 : decode (mcd M_Runner_constructorAt) 41 = .ok (.invokevirtual 74, 3) := by decide +kernel
theorem d_Runner_constructorAt_44 : decode (mcd M_Runner_constructorAt) 44 = .ok (.bipush 100, 2) := by decide +kernel
theorem d_Runner_constructorAt_46 : decode (mcd M_Runner_constructorAt) 46 = .ok (.isub, 1) := by decide +kernel
theorem d_Runner_constructorAt_47 : decode (mcd M_Runner_constructorAt) 47 = .ok (.goto 4, 3) := by decide +kernel
theorem d_Runner_constructorAt_50 : decode (mcd M_Runner_constructorAt) 50 = .ok (.iconst (-1), 1) := by decide +kernel
theorem d_Runner_constructorAt_51 : decode (mcd M_Runner_constructorAt) 51 = .ok (.ireturn, 1) := by decide +kernel
theorem d_Runner_go_0 : decode (mcd M_Runner_go) 0 = .ok (.aload_n 0, 1) := by decide +kernel
theorem d_Runner_go_1 : decode (mcd M_Runner_go) 1 = .ok (.iconst 0, 1) := by decide +kernel
theorem d_Runner_go_2 : decode (mcd M_Runner_go) 2 = .ok (.putfield 27, 3) := by decide +kernel
theorem d_Runner_go_5 : decode (mcd M_Runner_go) 5 = .ok (.aload_n 0, 1) := by decide +kernel
theorem d_Runner_go_6 : decode (mcd M_Runner_go) 6 = .ok (.getfield 27, 3) := by decide +kernel
theorem d_Runner_go_9 : decode (mcd M_Runner_go) 9 = .ok (.iload_n 2, 1) := by decide +kernel
theorem d_Runner_go_10 : decode (mcd M_Runner_go) 10 = .ok (.if_icmp .gt 85, 3) := by decide +kernel
theorem d_Runner_go_13 : decode (mcd M_Runner_go) 13 = .ok (.aload_n 0, 1) := by decide +kernel
theorem d_Runner_go_14 : decode (mcd M_Runner_go) 14 = .ok (.getfield 30, 3) := by decide +kernel
theorem d_Runner_go_17 : decode (mcd M_Runner_go) 17 = .ok (.aload_n 0, 1) := by decide +kernel
theorem d_Runner_go_18 : decode (mcd M_Runner_go) 18 = .ok (.getfield 14, 3) := by decide +kernel
theorem d_Runner_go_21 : decode (mcd M_Runner_go) 21 = .ok (.invokevirtual 58, 3) := by decide +kernel
theorem d_Runner_go_24 : decode (mcd M_Runner_go) 24 = .ok (.istore_n 3, 1) := by decide +kernel
theorem d_Runner_go_25 : decode (mcd M_Runner_go) 25 = .ok (.aload_n 0, 1) := by decide +kernel
theorem d_Runner_go_26 : decode (mcd M_Runner_go) 26 = .ok (.aload_n 0, 1) := by decide +kernel
theorem d_Runner_go_27 : decode (mcd M_Runner_go) 27 = .ok (.aload_n 1, 1) := by decide +kernel
theorem d_Runner_go_28 : decode (mcd M_Runner_go) 28 = .ok (.iload_n 3, 1) := by decide +kernel
theorem d_Runner_go_29 : decode (mcd M_Runner_go) 29 = .ok (.iload_n 2, 1) := by decide +kernel
theorem d_Runner_go_30 : decode (mcd M_Runner_go) 30 = .ok (.invokevirtual 64, 3) := by decide +kernel
theorem d_Runner_go_33 : decode (mcd M_Runner_go) 33 = .ok (.putfield 23, 3) := by decide +kernel
theorem d_Runner_go_36 : decode (mcd M_Runner_go) 36 = .ok (.aload_n 0, 1) := by decide +kernel
theorem d_Runner_go_37 : decode (mcd M_Runner_go) 37 = .ok (.getfield 23, 3) := by decide +kernel
theorem d_Runner_go_40 : decode (mcd M_Runner_go) 40 = .ok (.iconst 4, 1) := by decide +kernel
theorem d_Runner_go_41 : decode (mcd M_Runner_go) 41 = .ok (.if_icmp .eq 8, 3) := by decide +kernel
theorem d_Runner_go_44 : decode (mcd M_Runner_go) 44 = .ok (.aload_n 0, 1) := by decide +kernel
theorem d_Runner_go_45 : decode (mcd M_Runner_go) 45 = .ok (.getfield 23, 3) := by decide +kernel
theorem d_Runner_go_48 : decode (mcd M_Runner_go) 48 = .ok (.ireturn, 1) := by decide +kernel
theorem d_Runner_go_49 : decode (mcd M_Runner_go) 49 = .ok (.aload_n 1, 1) := by decide +kernel
theorem d_Runner_go_50 : decode (mcd M_Runner_go) 50 = .ok (.aload_n 0, 1) := by decide +kernel
theorem d_Runner_go_51 : decode (mcd M_Runner_go) 51 = .ok (.getfield 14, 3) := by decide +kernel
theorem d_Runner_go_54 : decode (mcd M_Runner_go) 54 = .ok (.iload_n 3, 1) := by decide +kernel
theorem d_Runner_go_55 : decode (mcd M_Runner_go) 55 = .ok (.aload_n 0, 1) := by decide +kernel
theorem d_Runner_go_56 : decode (mcd M_Runner_go) 56 = .ok (.getfield 20, 3) := by decide +kernel
theorem d_Runner_go_59 : decode (mcd M_Runner_go) 59 = .ok (.invokevirtual 68, 3) := by decide +kernel
theorem d_Runner_go_62 : decode (mcd M_Runner_go) 62 = .ok (.aload_n 0, 1) := by decide +kernel
theorem d_Runner_go_63 : decode (mcd M_Runner_go) 63 = .ok (.getfield 14, 3) := by decide +kernel
theorem d_Runner_go_66 : decode (mcd M_Runner_go) 66 = .ok (.astore 4, 2) := by decide +kernel
theorem d_Runner_go_68 : decode (mcd M_Runner_go) 68 = .ok (.aload_n 0, 1) := by decide +kernel
theorem d_Runner_go_69 : decode (mcd M_Runner_go) 69 = .ok (.aload_n 0, 1) := by decide +kernel
theorem d_Runner_go_70 : decode (mcd M_Runner_go) 70 = .ok (.getfield 20, 3) := by decide +kernel
theorem d_Runner_go_73 : decode (mcd M_Runner_go) 73 = .ok (.putfield 14, 3) := by decide +kernel
theorem d_Runner_go_76 : decode (mcd M_Runner_go) 76 = .ok (.aload_n 0, 1) := by decide +kernel
theorem d_Runner_go_77 : decode (mcd M_Runner_go) 77 = .ok (.aload 4, 2) := by decide +kernel
theorem d_Runner_go_79 : decode (mcd M_Runner_go) 79 = .ok (.putfield 20, 3) := by decide +kernel
theorem d_Runner_go_82 : decode (mcd M_Runner_go) 82 = .ok (.aload_n 0, 1) := by decide +kernel
theorem d_Runner_go_83 : decode (mcd M_Runner_go) 83 = .ok (.dup, 1) := by decide +kernel
theorem d_Runner_go_84 : decode (mcd M_Runner_go) 84 = .ok (.getfield 27, 3) := by decide +kernel
theorem d_Runner_go_87 : decode (mcd M_Runner_go) 87 = .ok (.iconst 1, 1) := by decide +kernel
theorem d_Runner_go_88 : decode (mcd M_Runner_go) 88 = .ok (.iadd, 1) := by decide +kernel
theorem d_Runner_go_89 : decode (mcd M_Runner_go) 89 = .ok (.putfield 27, 3) := by decide +kernel
theorem d_Runner_go_92 : decode (mcd M_Runner_go) 92 = .ok (.goto (-87), 3) := by decide +kernel
theorem d_Runner_go_95 : decode (mcd M_Runner_go) 95 = .ok (.aload_n 0, 1) := by decide +kernel
theorem d_Runner_go_96 : decode (mcd M_Runner_go) 96 = .ok (.getfield 23, 3) := by decide +kernel
theorem d_Runner_go_99 : decode (mcd M_Runner_go) 99 = .ok (.ireturn, 1) := by decide +kernel
theorem d_Runner_judge_0 : decode (mcd M_Runner_judge) 0 = .ok (.aload_n 0, 1) := by decide +kernel
theorem d_Runner_judge_1 : decode (mcd M_Runner_judge) 1 = .ok (.getfield 14, 3) := by decide +kernel
theorem d_Runner_judge_4 : decode (mcd M_Runner_judge) 4 = .ok (.invokevirtual 82, 3) := by decide +kernel
theorem d_Runner_judge_7 : decode (mcd M_Runner_judge) 7 = .ok (.ifCond .eq 5, 3) := by decide +kernel
theorem d_Runner_judge_10 : decode (mcd M_Runner_judge) 10 = .ok (.iconst 3, 1) := by decide +kernel
theorem d_Runner_judge_11 : decode (mcd M_Runner_judge) 11 = .ok (.ireturn, 1) := by decide +kernel
theorem d_Runner_judge_12 : decode (mcd M_Runner_judge) 12 = .ok (.iload_n 2, 1) := by decide +kernel
theorem d_Runner_judge_13 : decode (mcd M_Runner_judge) 13 = .ok (.iconst (-1), 1) := by decide +kernel
theorem d_Runner_judge_14 : decode (mcd M_Runner_judge) 14 = .ok (.if_icmp .ne 5, 3) := by decide +kernel
theorem d_Runner_judge_17 : decode (mcd M_Runner_judge) 17 = .ok (.iconst 0, 1) := by decide +kernel
theorem d_Runner_judge_18 : decode (mcd M_Runner_judge) 18 = .ok (.ireturn, 1) := by decide +kernel
theorem d_Runner_judge_19 : decode (mcd M_Runner_judge) 19 = .ok (.aload_n 1, 1) := by decide +kernel
theorem d_Runner_judge_20 : decode (mcd M_Runner_judge) 20 = .ok (.aload_n 0, 1) := by decide +kernel
theorem d_Runner_judge_21 : decode (mcd M_Runner_judge) 21 = .ok (.getfield 14, 3) := by decide +kernel
theorem d_Runner_judge_24 : decode (mcd M_Runner_judge) 24 = .ok (.iload_n 2, 1) := by decide +kernel
theorem d_Runner_judge_25 : decode (mcd M_Runner_judge) 25 = .ok (.invokevirtual 86, 3) := by decide +kernel
theorem d_Runner_judge_28 : decode (mcd M_Runner_judge) 28 = .ok (.ifCond .ne 5, 3) := by decide +kernel
theorem d_Runner_judge_31 : decode (mcd M_Runner_judge) 31 = .ok (.iconst 1, 1) := by decide +kernel
theorem d_Runner_judge_32 : decode (mcd M_Runner_judge) 32 = .ok (.ireturn, 1) := by decide +kernel
theorem d_Runner_judge_33 : decode (mcd M_Runner_judge) 33 = .ok (.aload_n 0, 1) := by decide +kernel
theorem d_Runner_judge_34 : decode (mcd M_Runner_judge) 34 = .ok (.getfield 27, 3) := by decide +kernel
theorem d_Runner_judge_37 : decode (mcd M_Runner_judge) 37 = .ok (.iload_n 3, 1) := by decide +kernel
theorem d_Runner_judge_38 : decode (mcd M_Runner_judge) 38 = .ok (.if_icmp .lt 7, 3) := by decide +kernel
theorem d_Runner_judge_41 : decode (mcd M_Runner_judge) 41 = .ok (.iconst 2, 1) := by decide +kernel
theorem d_Runner_judge_42 : decode (mcd M_Runner_judge) 42 = .ok (.goto 4, 3) := by decide +kernel
theorem d_Runner_judge_45 : decode (mcd M_Runner_judge) 45 = .ok (.iconst 4, 1) := by decide +kernel
theorem d_Runner_judge_46 : decode (mcd M_Runner_judge) 46 = .ok (.ireturn, 1) := by decide +kernel
theorem d_Runner_stepsMade_0 : decode (mcd M_Runner_stepsMade) 0 = .ok (.aload_n 0, 1) := by decide +kernel
theorem d_Runner_stepsMade_1 : decode (mcd M_Runner_stepsMade) 1 = .ok (.getfield 27, 3) := by decide +kernel
theorem d_Runner_stepsMade_4 : decode (mcd M_Runner_stepsMade) 4 = .ok (.ireturn, 1) := by decide +kernel
