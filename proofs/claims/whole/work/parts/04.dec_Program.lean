theorem d_Program_init_0 : decode (mcd M_Program_init) 0 = .ok (.aload_n 0, 1) := by decide +kernel
theorem d_Program_init_1 : decode (mcd M_Program_init) 1 = .ok (.invokespecial 3, 3) := by decide +kernel
theorem d_Program_init_4 : decode (mcd M_Program_init) 4 = .ok (.aload_n 0, 1) := by decide +kernel
theorem d_Program_init_5 : decode (mcd M_Program_init) 5 = .ok (.aload_n 1, 1) := by decide +kernel
theorem d_Program_init_6 : decode (mcd M_Program_init) 6 = .ok (.putfield 9, 3) := by decide +kernel
theorem d_Program_init_9 : decode (mcd M_Program_init) 9 = .ok (.aload_n 0, 1) := by decide +kernel
theorem d_Program_init_10 : decode (mcd M_Program_init) 10 = .ok (.aload_n 2, 1) := by decide +kernel
theorem d_Program_init_11 : decode (mcd M_Program_init) 11 = .ok (.putfield 15, 3) := by decide +kernel
theorem d_Program_init_14 : decode (mcd M_Program_init) 14 = .ok (.return_, 1) := by decide +kernel
theorem d_Program_constructorAskedFor_0 : decode (mcd M_Program_constructorAskedFor) 0 = .ok (.aload_n 1, 1) := by decide +kernel
theorem d_Program_constructorAskedFor_1 : decode (mcd M_Program_constructorAskedFor) 1 = .ok (.iload_n 2, 1) := by decide +kernel
theorem d_Program_constructorAskedFor_2 : decode (mcd M_Program_constructorAskedFor) 2 = .ok (.iconst 1, 1) := by decide +kernel
theorem d_Program_constructorAskedFor_3 : decode (mcd M_Program_constructorAskedFor) 3 = .ok (.iadd, 1) := by decide +kernel
theorem d_Program_constructorAskedFor_4 : decode (mcd M_Program_constructorAskedFor) 4 = .ok (.invokevirtual 23, 3) := by decide +kernel
theorem d_Program_constructorAskedFor_7 : decode (mcd M_Program_constructorAskedFor) 7 = .ok (.istore_n 3, 1) := by decide +kernel
theorem d_Program_constructorAskedFor_8 : decode (mcd M_Program_constructorAskedFor) 8 = .ok (.aload_n 0, 1) := by decide +kernel
theorem d_Program_constructorAskedFor_9 : decode (mcd M_Program_constructorAskedFor) 9 = .ok (.getfield 9, 3) := by decide +kernel
theorem d_Program_constructorAskedFor_12 : decode (mcd M_Program_constructorAskedFor) 12 = .ok (.aload_n 1, 1) := by decide +kernel
theorem d_Program_constructorAskedFor_13 : decode (mcd M_Program_constructorAskedFor) 13 = .ok (.iload_n 2, 1) := by decide +kernel
theorem d_Program_constructorAskedFor_14 : decode (mcd M_Program_constructorAskedFor) 14 = .ok (.invokevirtual 23, 3) := by decide +kernel
theorem d_Program_constructorAskedFor_17 : decode (mcd M_Program_constructorAskedFor) 17 = .ok (.invokevirtual 29, 3) := by decide +kernel
theorem d_Program_constructorAskedFor_20 : decode (mcd M_Program_constructorAskedFor) 20 = .ok (.ifCond .eq 17, 3) := by decide +kernel
theorem d_Program_constructorAskedFor_23 : decode (mcd M_Program_constructorAskedFor) 23 = .ok (.iload_n 3, 1) := by decide +kernel
theorem d_Program_constructorAskedFor_24 : decode (mcd M_Program_constructorAskedFor) 24 = .ok (.invokestatic 76, 3) := by decide +kernel
theorem d_Program_constructorAskedFor_27 : decode (mcd M_Program_constructorAskedFor) 27 = .ok (.ifCond .eq 10, 3) := by decide +kernel
theorem d_Program_constructorAskedFor_30 : decode (mcd M_Program_constructorAskedFor) 30 = .ok (.iload_n 3, 1) := by decide +kernel
theorem d_Program_constructorAskedFor_31 : decode (mcd M_Program_constructorAskedFor) 31 = .ok (.bipush 100, 2) := by decide +kernel
theorem d_Program_constructorAskedFor_33 : decode (mcd M_Program_constructorAskedFor) 33 = .ok (.isub, 1) := by decide +kernel
theorem d_Program_constructorAskedFor_34 : decode (mcd M_Program_constructorAskedFor) 34 = .ok (.goto 4, 3) := by decide +kernel
theorem d_Program_constructorAskedFor_37 : decode (mcd M_Program_constructorAskedFor) 37 = .ok (.iconst (-1), 1) := by decide +kernel
theorem d_Program_constructorAskedFor_38 : decode (mcd M_Program_constructorAskedFor) 38 = .ok (.ireturn, 1) := by decide +kernel
theorem d_Program_unfold_0 : decode (mcd M_Program_unfold) 0 = .ok (.aload_n 1, 1) := by decide +kernel
theorem d_Program_unfold_1 : decode (mcd M_Program_unfold) 1 = .ok (.iload_n 2, 1) := by decide +kernel
theorem d_Program_unfold_2 : decode (mcd M_Program_unfold) 2 = .ok (.invokevirtual 23, 3) := by decide +kernel
theorem d_Program_unfold_5 : decode (mcd M_Program_unfold) 5 = .ok (.istore 4, 2) := by decide +kernel
theorem d_Program_unfold_7 : decode (mcd M_Program_unfold) 7 = .ok (.aload_n 0, 1) := by decide +kernel
theorem d_Program_unfold_8 : decode (mcd M_Program_unfold) 8 = .ok (.aload_n 1, 1) := by decide +kernel
theorem d_Program_unfold_9 : decode (mcd M_Program_unfold) 9 = .ok (.iload_n 2, 1) := by decide +kernel
theorem d_Program_unfold_10 : decode (mcd M_Program_unfold) 10 = .ok (.invokevirtual 19, 3) := by decide +kernel
theorem d_Program_unfold_13 : decode (mcd M_Program_unfold) 13 = .ok (.istore 5, 2) := by decide +kernel
theorem d_Program_unfold_15 : decode (mcd M_Program_unfold) 15 = .ok (.aload_n 0, 1) := by decide +kernel
theorem d_Program_unfold_16 : decode (mcd M_Program_unfold) 16 = .ok (.iload 4, 2) := by decide +kernel
theorem d_Program_unfold_18 : decode (mcd M_Program_unfold) 18 = .ok (.iload 5, 2) := by decide +kernel
theorem d_Program_unfold_20 : decode (mcd M_Program_unfold) 20 = .ok (.invokevirtual 35, 3) := by decide +kernel
theorem d_Program_unfold_23 : decode (mcd M_Program_unfold) 23 = .ok (.astore 6, 2) := by decide +kernel
theorem d_Program_unfold_25 : decode (mcd M_Program_unfold) 25 = .ok (.iload_n 2, 1) := by decide +kernel
theorem d_Program_unfold_26 : decode (mcd M_Program_unfold) 26 = .ok (.iconst 1, 1) := by decide +kernel
theorem d_Program_unfold_27 : decode (mcd M_Program_unfold) 27 = .ok (.iadd, 1) := by decide +kernel
theorem d_Program_unfold_28 : decode (mcd M_Program_unfold) 28 = .ok (.istore 7, 2) := by decide +kernel
theorem d_Program_unfold_30 : decode (mcd M_Program_unfold) 30 = .ok (.aload_n 0, 1) := by decide +kernel
theorem d_Program_unfold_31 : decode (mcd M_Program_unfold) 31 = .ok (.getfield 9, 3) := by decide +kernel
theorem d_Program_unfold_34 : decode (mcd M_Program_unfold) 34 = .ok (.iload 4, 2) := by decide +kernel
theorem d_Program_unfold_36 : decode (mcd M_Program_unfold) 36 = .ok (.invokevirtual 39, 3) := by decide +kernel
theorem d_Program_unfold_39 : decode (mcd M_Program_unfold) 39 = .ok (.istore 8, 2) := by decide +kernel
theorem d_Program_unfold_41 : decode (mcd M_Program_unfold) 41 = .ok (.iload 5, 2) := by decide +kernel
theorem d_Program_unfold_43 : decode (mcd M_Program_unfold) 43 = .ok (.iconst (-1), 1) := by decide +kernel
theorem d_Program_unfold_44 : decode (mcd M_Program_unfold) 44 = .ok (.if_icmp .eq 18, 3) := by decide +kernel
theorem d_Program_unfold_47 : decode (mcd M_Program_unfold) 47 = .ok (.iinc 7 1, 3) := by decide +kernel
theorem d_Program_unfold_50 : decode (mcd M_Program_unfold) 50 = .ok (.iload 8, 2) := by decide +kernel
theorem d_Program_unfold_52 : decode (mcd M_Program_unfold) 52 = .ok (.iload 5, 2) := by decide +kernel
theorem d_Program_unfold_54 : decode (mcd M_Program_unfold) 54 = .ok (.invokestatic 42, 3) := by decide +kernel
theorem d_Program_unfold_57 : decode (mcd M_Program_unfold) 57 = .ok (.iconst 1, 1) := by decide +kernel
theorem d_Program_unfold_58 : decode (mcd M_Program_unfold) 58 = .ok (.isub, 1) := by decide +kernel
theorem d_Program_unfold_59 : decode (mcd M_Program_unfold) 59 = .ok (.iadd, 1) := by decide +kernel
theorem d_Program_unfold_60 : decode (mcd M_Program_unfold) 60 = .ok (.istore 8, 2) := by decide +kernel
theorem d_Program_unfold_62 : decode (mcd M_Program_unfold) 62 = .ok (.aload_n 0, 1) := by decide +kernel
theorem d_Program_unfold_63 : decode (mcd M_Program_unfold) 63 = .ok (.getfield 15, 3) := by decide +kernel
theorem d_Program_unfold_66 : decode (mcd M_Program_unfold) 66 = .ok (.invokevirtual 45, 3) := by decide +kernel
theorem d_Program_unfold_69 : decode (mcd M_Program_unfold) 69 = .ok (.iconst 0, 1) := by decide +kernel
theorem d_Program_unfold_70 : decode (mcd M_Program_unfold) 70 = .ok (.istore 9, 2) := by decide +kernel
theorem d_Program_unfold_72 : decode (mcd M_Program_unfold) 72 = .ok (.iload 9, 2) := by decide +kernel
theorem d_Program_unfold_74 : decode (mcd M_Program_unfold) 74 = .ok (.iload 8, 2) := by decide +kernel
theorem d_Program_unfold_76 : decode (mcd M_Program_unfold) 76 = .ok (.if_icmp .ge 47, 3) := by decide +kernel
theorem d_Program_unfold_79 : decode (mcd M_Program_unfold) 79 = .ok (.aload_n 0, 1) := by decide +kernel
theorem d_Program_unfold_80 : decode (mcd M_Program_unfold) 80 = .ok (.getfield 9, 3) := by decide +kernel
theorem d_Program_unfold_83 : decode (mcd M_Program_unfold) 83 = .ok (.aload_n 1, 1) := by decide +kernel
theorem d_Program_unfold_84 : decode (mcd M_Program_unfold) 84 = .ok (.iload 7, 2) := by decide +kernel
theorem d_Program_unfold_86 : decode (mcd M_Program_unfold) 86 = .ok (.invokevirtual 50, 3) := by decide +kernel
theorem d_Program_unfold_89 : decode (mcd M_Program_unfold) 89 = .ok (.istore 10, 2) := by decide +kernel
theorem d_Program_unfold_91 : decode (mcd M_Program_unfold) 91 = .ok (.aload_n 0, 1) := by decide +kernel
theorem d_Program_unfold_92 : decode (mcd M_Program_unfold) 92 = .ok (.getfield 15, 3) := by decide +kernel
theorem d_Program_unfold_95 : decode (mcd M_Program_unfold) 95 = .ok (.aload_n 0, 1) := by decide +kernel
theorem d_Program_unfold_96 : decode (mcd M_Program_unfold) 96 = .ok (.iload 4, 2) := by decide +kernel
theorem d_Program_unfold_98 : decode (mcd M_Program_unfold) 98 = .ok (.iload 5, 2) := by decide +kernel
theorem d_Program_unfold_100 : decode (mcd M_Program_unfold) 100 = .ok (.iload 9, 2) := by decide +kernel
theorem d_Program_unfold_102 : decode (mcd M_Program_unfold) 102 = .ok (.invokevirtual 53, 3) := by decide +kernel
theorem d_Program_unfold_105 : decode (mcd M_Program_unfold) 105 = .ok (.aload_n 1, 1) := by decide +kernel
theorem d_Program_unfold_106 : decode (mcd M_Program_unfold) 106 = .ok (.iload 7, 2) := by decide +kernel
theorem d_Program_unfold_108 : decode (mcd M_Program_unfold) 108 = .ok (.iload 10, 2) := by decide +kernel
theorem d_Program_unfold_110 : decode (mcd M_Program_unfold) 110 = .ok (.invokevirtual 57, 3) := by decide +kernel
theorem d_Program_unfold_113 : decode (mcd M_Program_unfold) 113 = .ok (.iload 10, 2) := by decide +kernel
theorem d_Program_unfold_115 : decode (mcd M_Program_unfold) 115 = .ok (.istore 7, 2) := by decide +kernel
theorem d_Program_unfold_117 : decode (mcd M_Program_unfold) 117 = .ok (.iinc 9 1, 3) := by decide +kernel
theorem d_Program_unfold_120 : decode (mcd M_Program_unfold) 120 = .ok (.goto (-48), 3) := by decide +kernel
theorem d_Program_unfold_123 : decode (mcd M_Program_unfold) 123 = .ok (.aload_n 3, 1) := by decide +kernel
theorem d_Program_unfold_124 : decode (mcd M_Program_unfold) 124 = .ok (.invokevirtual 61, 3) := by decide +kernel
theorem d_Program_unfold_127 : decode (mcd M_Program_unfold) 127 = .ok (.aload_n 3, 1) := by decide +kernel
theorem d_Program_unfold_128 : decode (mcd M_Program_unfold) 128 = .ok (.aload_n 1, 1) := by decide +kernel
theorem d_Program_unfold_129 : decode (mcd M_Program_unfold) 129 = .ok (.iconst 0, 1) := by decide +kernel
theorem d_Program_unfold_130 : decode (mcd M_Program_unfold) 130 = .ok (.iload_n 2, 1) := by decide +kernel
theorem d_Program_unfold_131 : decode (mcd M_Program_unfold) 131 = .ok (.invokevirtual 64, 3) := by decide +kernel
theorem d_Program_unfold_134 : decode (mcd M_Program_unfold) 134 = .ok (.aload 6, 2) := by decide +kernel
theorem d_Program_unfold_136 : decode (mcd M_Program_unfold) 136 = .ok (.ifnull 13, 3) := by decide +kernel
theorem d_Program_unfold_139 : decode (mcd M_Program_unfold) 139 = .ok (.aload_n 0, 1) := by decide +kernel
theorem d_Program_unfold_140 : decode (mcd M_Program_unfold) 140 = .ok (.getfield 15, 3) := by decide +kernel
theorem d_Program_unfold_143 : decode (mcd M_Program_unfold) 143 = .ok (.aload 6, 2) := by decide +kernel
theorem d_Program_unfold_145 : decode (mcd M_Program_unfold) 145 = .ok (.aload_n 3, 1) := by decide +kernel
theorem d_Program_unfold_146 : decode (mcd M_Program_unfold) 146 = .ok (.invokevirtual 68, 3) := by decide +kernel
theorem d_Program_unfold_149 : decode (mcd M_Program_unfold) 149 = .ok (.aload_n 3, 1) := by decide +kernel
theorem d_Program_unfold_150 : decode (mcd M_Program_unfold) 150 = .ok (.aload_n 1, 1) := by decide +kernel
theorem d_Program_unfold_151 : decode (mcd M_Program_unfold) 151 = .ok (.iload 7, 2) := by decide +kernel
theorem d_Program_unfold_153 : decode (mcd M_Program_unfold) 153 = .ok (.aload_n 1, 1) := by decide +kernel
theorem d_Program_unfold_154 : decode (mcd M_Program_unfold) 154 = .ok (.invokevirtual 72, 3) := by decide +kernel
theorem d_Program_unfold_157 : decode (mcd M_Program_unfold) 157 = .ok (.invokevirtual 64, 3) := by decide +kernel
theorem d_Program_unfold_160 : decode (mcd M_Program_unfold) 160 = .ok (.return_, 1) := by decide +kernel
theorem d_Program_unfolds_0 : decode (mcd M_Program_unfolds) 0 = .ok (.aload_n 0, 1) := by decide +kernel
theorem d_Program_unfolds_1 : decode (mcd M_Program_unfolds) 1 = .ok (.aload_n 1, 1) := by decide +kernel
theorem d_Program_unfolds_2 : decode (mcd M_Program_unfolds) 2 = .ok (.iload_n 2, 1) := by decide +kernel
theorem d_Program_unfolds_3 : decode (mcd M_Program_unfolds) 3 = .ok (.invokevirtual 19, 3) := by decide +kernel
theorem d_Program_unfolds_6 : decode (mcd M_Program_unfolds) 6 = .ok (.istore_n 3, 1) := by decide +kernel
theorem d_Program_unfolds_7 : decode (mcd M_Program_unfolds) 7 = .ok (.aload_n 0, 1) := by decide +kernel
theorem d_Program_unfolds_8 : decode (mcd M_Program_unfolds) 8 = .ok (.getfield 9, 3) := by decide +kernel
theorem d_Program_unfolds_11 : decode (mcd M_Program_unfolds) 11 = .ok (.aload_n 1, 1) := by decide +kernel
theorem d_Program_unfolds_12 : decode (mcd M_Program_unfolds) 12 = .ok (.iload_n 2, 1) := by decide +kernel
theorem d_Program_unfolds_13 : decode (mcd M_Program_unfolds) 13 = .ok (.invokevirtual 23, 3) := by decide +kernel
theorem d_Program_unfolds_16 : decode (mcd M_Program_unfolds) 16 = .ok (.invokevirtual 29, 3) := by decide +kernel
theorem d_Program_unfolds_19 : decode (mcd M_Program_unfolds) 19 = .ok (.ifCond .eq 8, 3) := by decide +kernel
theorem d_Program_unfolds_22 : decode (mcd M_Program_unfolds) 22 = .ok (.iload_n 3, 1) := by decide +kernel
theorem d_Program_unfolds_23 : decode (mcd M_Program_unfolds) 23 = .ok (.iconst (-1), 1) := by decide +kernel
theorem d_Program_unfolds_24 : decode (mcd M_Program_unfolds) 24 = .ok (.if_icmp .eq 20, 3) := by decide +kernel
theorem d_Program_unfolds_27 : decode (mcd M_Program_unfolds) 27 = .ok (.aload_n 0, 1) := by decide +kernel
theorem d_Program_unfolds_28 : decode (mcd M_Program_unfolds) 28 = .ok (.aload_n 1, 1) := by decide +kernel
theorem d_Program_unfolds_29 : decode (mcd M_Program_unfolds) 29 = .ok (.iload_n 2, 1) := by decide +kernel
theorem d_Program_unfolds_30 : decode (mcd M_Program_unfolds) 30 = .ok (.invokevirtual 23, 3) := by decide +kernel
theorem d_Program_unfolds_33 : decode (mcd M_Program_unfolds) 33 = .ok (.iload_n 3, 1) := by decide +kernel
theorem d_Program_unfolds_34 : decode (mcd M_Program_unfolds) 34 = .ok (.invokevirtual 35, 3) := by decide +kernel
theorem d_Program_unfolds_37 : decode (mcd M_Program_unfolds) 37 = .ok (.ifnull 7, 3) := by decide +kernel
theorem d_Program_unfolds_40 : decode (mcd M_Program_unfolds) 40 = .ok (.iconst 1, 1) := by decide +kernel
theorem d_Program_unfolds_41 : decode (mcd M_Program_unfolds) 41 = .ok (.goto 4, 3) := by decide +kernel
theorem d_Program_unfolds_44 : decode (mcd M_Program_unfolds) 44 = .ok (.iconst 0, 1) := by decide +kernel
theorem d_Program_unfolds_45 : decode (mcd M_Program_unfolds) 45 = .ok (.ireturn, 1) := by decide +kernel
