theorem d_Driver_init_0 : decode (mcd M_Driver_init) 0 = .ok (.aload_n 0, 1) := by decide +kernel
theorem d_Driver_init_1 : decode (mcd M_Driver_init) 1 = .ok (.invokespecial 3, 3) := by decide +kernel
theorem d_Driver_init_4 : decode (mcd M_Driver_init) 4 = .ok (.aload_n 0, 1) := by decide +kernel
theorem d_Driver_init_5 : decode (mcd M_Driver_init) 5 = .ok (.new 9, 3) := by decide +kernel
theorem d_Driver_init_8 : decode (mcd M_Driver_init) 8 = .ok (.dup, 1) := by decide +kernel
theorem d_Driver_init_9 : decode (mcd M_Driver_init) 9 = .ok (.bipush 40, 2) := by decide +kernel
theorem d_Driver_init_11 : decode (mcd M_Driver_init) 11 = .ok (.invokespecial 11, 3) := by decide +kernel
theorem d_Driver_init_14 : decode (mcd M_Driver_init) 14 = .ok (.putfield 14, 3) := by decide +kernel
theorem d_Driver_init_17 : decode (mcd M_Driver_init) 17 = .ok (.aload_n 0, 1) := by decide +kernel
theorem d_Driver_init_18 : decode (mcd M_Driver_init) 18 = .ok (.new 9, 3) := by decide +kernel
theorem d_Driver_init_21 : decode (mcd M_Driver_init) 21 = .ok (.dup, 1) := by decide +kernel
theorem d_Driver_init_22 : decode (mcd M_Driver_init) 22 = .ok (.bipush 120, 2) := by decide +kernel
theorem d_Driver_init_24 : decode (mcd M_Driver_init) 24 = .ok (.invokespecial 11, 3) := by decide +kernel
theorem d_Driver_init_27 : decode (mcd M_Driver_init) 27 = .ok (.putfield 20, 3) := by decide +kernel
theorem d_Driver_init_30 : decode (mcd M_Driver_init) 30 = .ok (.aload_n 0, 1) := by decide +kernel
theorem d_Driver_init_31 : decode (mcd M_Driver_init) 31 = .ok (.new 9, 3) := by decide +kernel
theorem d_Driver_init_34 : decode (mcd M_Driver_init) 34 = .ok (.dup, 1) := by decide +kernel
theorem d_Driver_init_35 : decode (mcd M_Driver_init) 35 = .ok (.iconst 3, 1) := by decide +kernel
theorem d_Driver_init_36 : decode (mcd M_Driver_init) 36 = .ok (.invokespecial 11, 3) := by decide +kernel
theorem d_Driver_init_39 : decode (mcd M_Driver_init) 39 = .ok (.putfield 23, 3) := by decide +kernel
theorem d_Driver_init_42 : decode (mcd M_Driver_init) 42 = .ok (.aload_n 0, 1) := by decide +kernel
theorem d_Driver_init_43 : decode (mcd M_Driver_init) 43 = .ok (.aload_n 1, 1) := by decide +kernel
theorem d_Driver_init_44 : decode (mcd M_Driver_init) 44 = .ok (.putfield 26, 3) := by decide +kernel
theorem d_Driver_init_47 : decode (mcd M_Driver_init) 47 = .ok (.aload_n 0, 1) := by decide +kernel
theorem d_Driver_init_48 : decode (mcd M_Driver_init) 48 = .ok (.aload_n 2, 1) := by decide +kernel
theorem d_Driver_init_49 : decode (mcd M_Driver_init) 49 = .ok (.putfield 30, 3) := by decide +kernel
theorem d_Driver_init_52 : decode (mcd M_Driver_init) 52 = .ok (.aload_n 0, 1) := by decide +kernel
theorem d_Driver_init_53 : decode (mcd M_Driver_init) 53 = .ok (.aload_n 3, 1) := by decide +kernel
theorem d_Driver_init_54 : decode (mcd M_Driver_init) 54 = .ok (.putfield 34, 3) := by decide +kernel
theorem d_Driver_init_57 : decode (mcd M_Driver_init) 57 = .ok (.aload_n 0, 1) := by decide +kernel
theorem d_Driver_init_58 : decode (mcd M_Driver_init) 58 = .ok (.aload 4, 2) := by decide +kernel
theorem d_Driver_init_60 : decode (mcd M_Driver_init) 60 = .ok (.putfield 38, 3) := by decide +kernel
theorem d_Driver_init_63 : decode (mcd M_Driver_init) 63 = .ok (.aload_n 0, 1) := by decide +kernel
theorem d_Driver_init_64 : decode (mcd M_Driver_init) 64 = .ok (.new 42, 3) := by decide +kernel
theorem d_Driver_init_67 : decode (mcd M_Driver_init) 67 = .ok (.dup, 1) := by decide +kernel
theorem d_Driver_init_68 : decode (mcd M_Driver_init) 68 = .ok (.aload_n 1, 1) := by decide +kernel
theorem d_Driver_init_69 : decode (mcd M_Driver_init) 69 = .ok (.aload_n 3, 1) := by decide +kernel
theorem d_Driver_init_70 : decode (mcd M_Driver_init) 70 = .ok (.invokespecial 44, 3) := by decide +kernel
theorem d_Driver_init_73 : decode (mcd M_Driver_init) 73 = .ok (.putfield 47, 3) := by decide +kernel
theorem d_Driver_init_76 : decode (mcd M_Driver_init) 76 = .ok (.return_, 1) := by decide +kernel
theorem d_Driver_addClause_0 : decode (mcd M_Driver_addClause) 0 = .ok (.iconst (-1), 1) := by decide +kernel
theorem d_Driver_addClause_1 : decode (mcd M_Driver_addClause) 1 = .ok (.istore 5, 2) := by decide +kernel
theorem d_Driver_addClause_3 : decode (mcd M_Driver_addClause) 3 = .ok (.aload_n 0, 1) := by decide +kernel
theorem d_Driver_addClause_4 : decode (mcd M_Driver_addClause) 4 = .ok (.getfield 23, 3) := by decide +kernel
theorem d_Driver_addClause_7 : decode (mcd M_Driver_addClause) 7 = .ok (.invokevirtual 170, 3) := by decide +kernel
theorem d_Driver_addClause_10 : decode (mcd M_Driver_addClause) 10 = .ok (.aload_n 0, 1) := by decide +kernel
theorem d_Driver_addClause_11 : decode (mcd M_Driver_addClause) 11 = .ok (.getfield 23, 3) := by decide +kernel
theorem d_Driver_addClause_14 : decode (mcd M_Driver_addClause) 14 = .ok (.bipush 100, 2) := by decide +kernel
theorem d_Driver_addClause_16 : decode (mcd M_Driver_addClause) 16 = .ok (.iload 4, 2) := by decide +kernel
theorem d_Driver_addClause_18 : decode (mcd M_Driver_addClause) 18 = .ok (.iadd, 1) := by decide +kernel
theorem d_Driver_addClause_19 : decode (mcd M_Driver_addClause) 19 = .ok (.invokevirtual 171, 3) := by decide +kernel
theorem d_Driver_addClause_22 : decode (mcd M_Driver_addClause) 22 = .ok (.iconst 0, 1) := by decide +kernel
theorem d_Driver_addClause_23 : decode (mcd M_Driver_addClause) 23 = .ok (.istore 6, 2) := by decide +kernel
theorem d_Driver_addClause_25 : decode (mcd M_Driver_addClause) 25 = .ok (.iload 6, 2) := by decide +kernel
theorem d_Driver_addClause_27 : decode (mcd M_Driver_addClause) 27 = .ok (.iload 4, 2) := by decide +kernel
theorem d_Driver_addClause_29 : decode (mcd M_Driver_addClause) 29 = .ok (.invokestatic 173, 3) := by decide +kernel
theorem d_Driver_addClause_32 : decode (mcd M_Driver_addClause) 32 = .ok (.if_icmp .ge 33, 3) := by decide +kernel
theorem d_Driver_addClause_35 : decode (mcd M_Driver_addClause) 35 = .ok (.aload_n 0, 1) := by decide +kernel
theorem d_Driver_addClause_36 : decode (mcd M_Driver_addClause) 36 = .ok (.getfield 23, 3) := by decide +kernel
theorem d_Driver_addClause_39 : decode (mcd M_Driver_addClause) 39 = .ok (.aload_n 0, 1) := by decide +kernel
theorem d_Driver_addClause_40 : decode (mcd M_Driver_addClause) 40 = .ok (.getfield 34, 3) := by decide +kernel
theorem d_Driver_addClause_43 : decode (mcd M_Driver_addClause) 43 = .ok (.invokevirtual 176, 3) := by decide +kernel
theorem d_Driver_addClause_46 : decode (mcd M_Driver_addClause) 46 = .ok (.invokevirtual 171, 3) := by decide +kernel
theorem d_Driver_addClause_49 : decode (mcd M_Driver_addClause) 49 = .ok (.aload_n 0, 1) := by decide +kernel
theorem d_Driver_addClause_50 : decode (mcd M_Driver_addClause) 50 = .ok (.getfield 23, 3) := by decide +kernel
theorem d_Driver_addClause_53 : decode (mcd M_Driver_addClause) 53 = .ok (.iconst 1, 1) := by decide +kernel
theorem d_Driver_addClause_54 : decode (mcd M_Driver_addClause) 54 = .ok (.invokevirtual 81, 3) := by decide +kernel
theorem d_Driver_addClause_57 : decode (mcd M_Driver_addClause) 57 = .ok (.istore 5, 2) := by decide +kernel
theorem d_Driver_addClause_59 : decode (mcd M_Driver_addClause) 59 = .ok (.iinc 6 1, 3) := by decide +kernel
theorem d_Driver_addClause_62 : decode (mcd M_Driver_addClause) 62 = .ok (.goto (-37), 3) := by decide +kernel
theorem d_Driver_addClause_65 : decode (mcd M_Driver_addClause) 65 = .ok (.aload_n 0, 1) := by decide +kernel
theorem d_Driver_addClause_66 : decode (mcd M_Driver_addClause) 66 = .ok (.getfield 38, 3) := by decide +kernel
theorem d_Driver_addClause_69 : decode (mcd M_Driver_addClause) 69 = .ok (.invokevirtual 179, 3) := by decide +kernel
theorem d_Driver_addClause_72 : decode (mcd M_Driver_addClause) 72 = .ok (.aload_n 0, 1) := by decide +kernel
theorem d_Driver_addClause_73 : decode (mcd M_Driver_addClause) 73 = .ok (.getfield 38, 3) := by decide +kernel
theorem d_Driver_addClause_76 : decode (mcd M_Driver_addClause) 76 = .ok (.iload_n 3, 1) := by decide +kernel
theorem d_Driver_addClause_77 : decode (mcd M_Driver_addClause) 77 = .ok (.aload_n 0, 1) := by decide +kernel
theorem d_Driver_addClause_78 : decode (mcd M_Driver_addClause) 78 = .ok (.getfield 23, 3) := by decide +kernel
theorem d_Driver_addClause_81 : decode (mcd M_Driver_addClause) 81 = .ok (.iconst 0, 1) := by decide +kernel
theorem d_Driver_addClause_82 : decode (mcd M_Driver_addClause) 82 = .ok (.aload_n 0, 1) := by decide +kernel
theorem d_Driver_addClause_83 : decode (mcd M_Driver_addClause) 83 = .ok (.getfield 23, 3) := by decide +kernel
theorem d_Driver_addClause_86 : decode (mcd M_Driver_addClause) 86 = .ok (.invokevirtual 56, 3) := by decide +kernel
theorem d_Driver_addClause_89 : decode (mcd M_Driver_addClause) 89 = .ok (.invokevirtual 184, 3) := by decide +kernel
theorem d_Driver_addClause_92 : decode (mcd M_Driver_addClause) 92 = .ok (.aload_n 0, 1) := by decide +kernel
theorem d_Driver_addClause_93 : decode (mcd M_Driver_addClause) 93 = .ok (.getfield 20, 3) := by decide +kernel
theorem d_Driver_addClause_96 : decode (mcd M_Driver_addClause) 96 = .ok (.invokevirtual 170, 3) := by decide +kernel
theorem d_Driver_addClause_99 : decode (mcd M_Driver_addClause) 99 = .ok (.aload_n 0, 1) := by decide +kernel
theorem d_Driver_addClause_100 : decode (mcd M_Driver_addClause) 100 = .ok (.getfield 38, 3) := by decide +kernel
theorem d_Driver_addClause_103 : decode (mcd M_Driver_addClause) 103 = .ok (.aload_n 1, 1) := by decide +kernel
theorem d_Driver_addClause_104 : decode (mcd M_Driver_addClause) 104 = .ok (.getfield 78, 3) := by decide +kernel
theorem d_Driver_addClause_107 : decode (mcd M_Driver_addClause) 107 = .ok (.aload_n 0, 1) := by decide +kernel
theorem d_Driver_addClause_108 : decode (mcd M_Driver_addClause) 108 = .ok (.getfield 20, 3) := by decide +kernel
theorem d_Driver_addClause_111 : decode (mcd M_Driver_addClause) 111 = .ok (.invokevirtual 188, 3) := by decide +kernel
theorem d_Driver_addClause_114 : decode (mcd M_Driver_addClause) 114 = .ok (.aload_n 0, 1) := by decide +kernel
theorem d_Driver_addClause_115 : decode (mcd M_Driver_addClause) 115 = .ok (.getfield 30, 3) := by decide +kernel
theorem d_Driver_addClause_118 : decode (mcd M_Driver_addClause) 118 = .ok (.aload_n 0, 1) := by decide +kernel
theorem d_Driver_addClause_119 : decode (mcd M_Driver_addClause) 119 = .ok (.getfield 20, 3) := by decide +kernel
theorem d_Driver_addClause_122 : decode (mcd M_Driver_addClause) 122 = .ok (.iload_n 2, 1) := by decide +kernel
theorem d_Driver_addClause_123 : decode (mcd M_Driver_addClause) 123 = .ok (.aload_n 0, 1) := by decide +kernel
theorem d_Driver_addClause_124 : decode (mcd M_Driver_addClause) 124 = .ok (.getfield 14, 3) := by decide +kernel
theorem d_Driver_addClause_127 : decode (mcd M_Driver_addClause) 127 = .ok (.invokevirtual 158, 3) := by decide +kernel
theorem d_Driver_addClause_130 : decode (mcd M_Driver_addClause) 130 = .ok (.aload_n 0, 1) := by decide +kernel
theorem d_Driver_addClause_131 : decode (mcd M_Driver_addClause) 131 = .ok (.getfield 34, 3) := by decide +kernel
theorem d_Driver_addClause_134 : decode (mcd M_Driver_addClause) 134 = .ok (.aload_n 1, 1) := by decide +kernel
theorem d_Driver_addClause_135 : decode (mcd M_Driver_addClause) 135 = .ok (.aload_n 0, 1) := by decide +kernel
theorem d_Driver_addClause_136 : decode (mcd M_Driver_addClause) 136 = .ok (.getfield 14, 3) := by decide +kernel
theorem d_Driver_addClause_139 : decode (mcd M_Driver_addClause) 139 = .ok (.iconst 0, 1) := by decide +kernel
theorem d_Driver_addClause_140 : decode (mcd M_Driver_addClause) 140 = .ok (.aload_n 0, 1) := by decide +kernel
theorem d_Driver_addClause_141 : decode (mcd M_Driver_addClause) 141 = .ok (.getfield 14, 3) := by decide +kernel
theorem d_Driver_addClause_144 : decode (mcd M_Driver_addClause) 144 = .ok (.invokevirtual 56, 3) := by decide +kernel
theorem d_Driver_addClause_147 : decode (mcd M_Driver_addClause) 147 = .ok (.invokevirtual 60, 3) := by decide +kernel
theorem d_Driver_addClause_150 : decode (mcd M_Driver_addClause) 150 = .ok (.astore 6, 2) := by decide +kernel
theorem d_Driver_addClause_152 : decode (mcd M_Driver_addClause) 152 = .ok (.aload 6, 2) := by decide +kernel
theorem d_Driver_addClause_154 : decode (mcd M_Driver_addClause) 154 = .ok (.ifnull 17, 3) := by decide +kernel
theorem d_Driver_addClause_157 : decode (mcd M_Driver_addClause) 157 = .ok (.aload 6, 2) := by decide +kernel
theorem d_Driver_addClause_159 : decode (mcd M_Driver_addClause) 159 = .ok (.iload 4, 2) := by decide +kernel
theorem d_Driver_addClause_161 : decode (mcd M_Driver_addClause) 161 = .ok (.putfield 192, 3) := by decide +kernel
theorem d_Driver_addClause_164 : decode (mcd M_Driver_addClause) 164 = .ok (.aload 6, 2) := by decide +kernel
theorem d_Driver_addClause_166 : decode (mcd M_Driver_addClause) 166 = .ok (.iload 5, 2) := by decide +kernel
theorem d_Driver_addClause_168 : decode (mcd M_Driver_addClause) 168 = .ok (.putfield 195, 3) := by decide +kernel
theorem d_Driver_addClause_171 : decode (mcd M_Driver_addClause) 171 = .ok (.return_, 1) := by decide +kernel
theorem d_Driver_begin_0 : decode (mcd M_Driver_begin) 0 = .ok (.aload_n 0, 1) := by decide +kernel
theorem d_Driver_begin_1 : decode (mcd M_Driver_begin) 1 = .ok (.getfield 34, 3) := by decide +kernel
theorem d_Driver_begin_4 : decode (mcd M_Driver_begin) 4 = .ok (.invokevirtual 51, 3) := by decide +kernel
theorem d_Driver_begin_7 : decode (mcd M_Driver_begin) 7 = .ok (.aload_n 0, 1) := by decide +kernel
theorem d_Driver_begin_8 : decode (mcd M_Driver_begin) 8 = .ok (.getfield 34, 3) := by decide +kernel
theorem d_Driver_begin_11 : decode (mcd M_Driver_begin) 11 = .ok (.aconst_null, 1) := by decide +kernel
theorem d_Driver_begin_12 : decode (mcd M_Driver_begin) 12 = .ok (.aload_n 1, 1) := by decide +kernel
theorem d_Driver_begin_13 : decode (mcd M_Driver_begin) 13 = .ok (.iconst 0, 1) := by decide +kernel
theorem d_Driver_begin_14 : decode (mcd M_Driver_begin) 14 = .ok (.aload_n 1, 1) := by decide +kernel
theorem d_Driver_begin_15 : decode (mcd M_Driver_begin) 15 = .ok (.invokevirtual 56, 3) := by decide +kernel
theorem d_Driver_begin_18 : decode (mcd M_Driver_begin) 18 = .ok (.invokevirtual 60, 3) := by decide +kernel
theorem d_Driver_begin_21 : decode (mcd M_Driver_begin) 21 = .ok (.pop, 1) := by decide +kernel
theorem d_Driver_begin_22 : decode (mcd M_Driver_begin) 22 = .ok (.return_, 1) := by decide +kernel
theorem d_Driver_embeddedRival_0 : decode (mcd M_Driver_embeddedRival) 0 = .ok (.aload_n 1, 1) := by decide +kernel
theorem d_Driver_embeddedRival_1 : decode (mcd M_Driver_embeddedRival) 1 = .ok (.iload_n 2, 1) := by decide +kernel
theorem d_Driver_embeddedRival_2 : decode (mcd M_Driver_embeddedRival) 2 = .ok (.invokestatic 143, 3) := by decide +kernel
theorem d_Driver_embeddedRival_5 : decode (mcd M_Driver_embeddedRival) 5 = .ok (.astore_n 3, 1) := by decide +kernel
theorem d_Driver_embeddedRival_6 : decode (mcd M_Driver_embeddedRival) 6 = .ok (.aload_n 3, 1) := by decide +kernel
theorem d_Driver_embeddedRival_7 : decode (mcd M_Driver_embeddedRival) 7 = .ok (.ifnull 32, 3) := by decide +kernel
theorem d_Driver_embeddedRival_10 : decode (mcd M_Driver_embeddedRival) 10 = .ok (.aload_n 0, 1) := by decide +kernel
theorem d_Driver_embeddedRival_11 : decode (mcd M_Driver_embeddedRival) 11 = .ok (.getfield 26, 3) := by decide +kernel
theorem d_Driver_embeddedRival_14 : decode (mcd M_Driver_embeddedRival) 14 = .ok (.aload_n 3, 1) := by decide +kernel
theorem d_Driver_embeddedRival_15 : decode (mcd M_Driver_embeddedRival) 15 = .ok (.getfield 78, 3) := by decide +kernel
theorem d_Driver_embeddedRival_18 : decode (mcd M_Driver_embeddedRival) 18 = .ok (.aload_n 1, 1) := by decide +kernel
theorem d_Driver_embeddedRival_19 : decode (mcd M_Driver_embeddedRival) 19 = .ok (.getfield 78, 3) := by decide +kernel
theorem d_Driver_embeddedRival_22 : decode (mcd M_Driver_embeddedRival) 22 = .ok (.invokevirtual 150, 3) := by decide +kernel
theorem d_Driver_embeddedRival_25 : decode (mcd M_Driver_embeddedRival) 25 = .ok (.ifCond .eq 5, 3) := by decide +kernel
theorem d_Driver_embeddedRival_28 : decode (mcd M_Driver_embeddedRival) 28 = .ok (.aload_n 3, 1) := by decide +kernel
theorem d_Driver_embeddedRival_29 : decode (mcd M_Driver_embeddedRival) 29 = .ok (.areturn, 1) := by decide +kernel
theorem d_Driver_embeddedRival_30 : decode (mcd M_Driver_embeddedRival) 30 = .ok (.aload_n 3, 1) := by decide +kernel
theorem d_Driver_embeddedRival_31 : decode (mcd M_Driver_embeddedRival) 31 = .ok (.iload_n 2, 1) := by decide +kernel
theorem d_Driver_embeddedRival_32 : decode (mcd M_Driver_embeddedRival) 32 = .ok (.invokestatic 143, 3) := by decide +kernel
theorem d_Driver_embeddedRival_35 : decode (mcd M_Driver_embeddedRival) 35 = .ok (.astore_n 3, 1) := by decide +kernel
theorem d_Driver_embeddedRival_36 : decode (mcd M_Driver_embeddedRival) 36 = .ok (.goto (-30), 3) := by decide +kernel
theorem d_Driver_embeddedRival_39 : decode (mcd M_Driver_embeddedRival) 39 = .ok (.aconst_null, 1) := by decide +kernel
theorem d_Driver_embeddedRival_40 : decode (mcd M_Driver_embeddedRival) 40 = .ok (.areturn, 1) := by decide +kernel
theorem d_Driver_nextRival_0 : decode (mcd M_Driver_nextRival) 0 = .ok (.aload_n 0, 1) := by decide +kernel
theorem d_Driver_nextRival_1 : decode (mcd M_Driver_nextRival) 1 = .ok (.getfield 154, 3) := by decide +kernel
theorem d_Driver_nextRival_4 : decode (mcd M_Driver_nextRival) 4 = .ok (.astore_n 2, 1) := by decide +kernel
theorem d_Driver_nextRival_5 : decode (mcd M_Driver_nextRival) 5 = .ok (.aload_n 2, 1) := by decide +kernel
theorem d_Driver_nextRival_6 : decode (mcd M_Driver_nextRival) 6 = .ok (.ifnull 44, 3) := by decide +kernel
theorem d_Driver_nextRival_9 : decode (mcd M_Driver_nextRival) 9 = .ok (.aload_n 2, 1) := by decide +kernel
theorem d_Driver_nextRival_10 : decode (mcd M_Driver_nextRival) 10 = .ok (.getfield 68, 3) := by decide +kernel
theorem d_Driver_nextRival_13 : decode (mcd M_Driver_nextRival) 13 = .ok (.iload_n 1, 1) := by decide +kernel
theorem d_Driver_nextRival_14 : decode (mcd M_Driver_nextRival) 14 = .ok (.ifCond .eq 7, 3) := by decide +kernel
theorem d_Driver_nextRival_17 : decode (mcd M_Driver_nextRival) 17 = .ok (.iconst 3, 1) := by decide +kernel
theorem d_Driver_nextRival_18 : decode (mcd M_Driver_nextRival) 18 = .ok (.goto 4, 3) := by decide +kernel
theorem d_Driver_nextRival_21 : decode (mcd M_Driver_nextRival) 21 = .ok (.iconst 4, 1) := by decide +kernel
theorem d_Driver_nextRival_22 : decode (mcd M_Driver_nextRival) 22 = .ok (.if_icmp .ne 5, 3) := by decide +kernel
theorem d_Driver_nextRival_25 : decode (mcd M_Driver_nextRival) 25 = .ok (.aload_n 2, 1) := by decide +kernel
theorem d_Driver_nextRival_26 : decode (mcd M_Driver_nextRival) 26 = .ok (.areturn, 1) := by decide +kernel
theorem d_Driver_nextRival_27 : decode (mcd M_Driver_nextRival) 27 = .ok (.iload_n 1, 1) := by decide +kernel
theorem d_Driver_nextRival_28 : decode (mcd M_Driver_nextRival) 28 = .ok (.ifCond .eq 14, 3) := by decide +kernel
theorem d_Driver_nextRival_31 : decode (mcd M_Driver_nextRival) 31 = .ok (.aload_n 2, 1) := by decide +kernel
theorem d_Driver_nextRival_32 : decode (mcd M_Driver_nextRival) 32 = .ok (.getfield 68, 3) := by decide +kernel
theorem d_Driver_nextRival_35 : decode (mcd M_Driver_nextRival) 35 = .ok (.bipush 7, 2) := by decide +kernel
theorem d_Driver_nextRival_37 : decode (mcd M_Driver_nextRival) 37 = .ok (.if_icmp .eq 5, 3) := by decide +kernel
theorem d_Driver_nextRival_40 : decode (mcd M_Driver_nextRival) 40 = .ok (.aconst_null, 1) := by decide +kernel
theorem d_Driver_nextRival_41 : decode (mcd M_Driver_nextRival) 41 = .ok (.areturn, 1) := by decide +kernel
theorem d_Driver_nextRival_42 : decode (mcd M_Driver_nextRival) 42 = .ok (.aload_n 2, 1) := by decide +kernel
theorem d_Driver_nextRival_43 : decode (mcd M_Driver_nextRival) 43 = .ok (.getfield 154, 3) := by decide +kernel
theorem d_Driver_nextRival_46 : decode (mcd M_Driver_nextRival) 46 = .ok (.astore_n 2, 1) := by decide +kernel
theorem d_Driver_nextRival_47 : decode (mcd M_Driver_nextRival) 47 = .ok (.goto (-42), 3) := by decide +kernel
theorem d_Driver_nextRival_50 : decode (mcd M_Driver_nextRival) 50 = .ok (.aconst_null, 1) := by decide +kernel
theorem d_Driver_nextRival_51 : decode (mcd M_Driver_nextRival) 51 = .ok (.areturn, 1) := by decide +kernel
theorem d_Driver_renamedRival_0 : decode (mcd M_Driver_renamedRival) 0 = .ok (.aload_n 0, 1) := by decide +kernel
theorem d_Driver_renamedRival_1 : decode (mcd M_Driver_renamedRival) 1 = .ok (.iload_n 1, 1) := by decide +kernel
theorem d_Driver_renamedRival_2 : decode (mcd M_Driver_renamedRival) 2 = .ok (.invokestatic 143, 3) := by decide +kernel
theorem d_Driver_renamedRival_5 : decode (mcd M_Driver_renamedRival) 5 = .ok (.astore_n 2, 1) := by decide +kernel
theorem d_Driver_renamedRival_6 : decode (mcd M_Driver_renamedRival) 6 = .ok (.aload_n 2, 1) := by decide +kernel
theorem d_Driver_renamedRival_7 : decode (mcd M_Driver_renamedRival) 7 = .ok (.ifnull 28, 3) := by decide +kernel
theorem d_Driver_renamedRival_10 : decode (mcd M_Driver_renamedRival) 10 = .ok (.aload_n 0, 1) := by decide +kernel
theorem d_Driver_renamedRival_11 : decode (mcd M_Driver_renamedRival) 11 = .ok (.getfield 78, 3) := by decide +kernel
theorem d_Driver_renamedRival_14 : decode (mcd M_Driver_renamedRival) 14 = .ok (.aload_n 2, 1) := by decide +kernel
theorem d_Driver_renamedRival_15 : decode (mcd M_Driver_renamedRival) 15 = .ok (.getfield 78, 3) := by decide +kernel
theorem d_Driver_renamedRival_18 : decode (mcd M_Driver_renamedRival) 18 = .ok (.invokevirtual 146, 3) := by decide +kernel
theorem d_Driver_renamedRival_21 : decode (mcd M_Driver_renamedRival) 21 = .ok (.ifCond .eq 5, 3) := by decide +kernel
theorem d_Driver_renamedRival_24 : decode (mcd M_Driver_renamedRival) 24 = .ok (.aload_n 2, 1) := by decide +kernel
theorem d_Driver_renamedRival_25 : decode (mcd M_Driver_renamedRival) 25 = .ok (.areturn, 1) := by decide +kernel
theorem d_Driver_renamedRival_26 : decode (mcd M_Driver_renamedRival) 26 = .ok (.aload_n 2, 1) := by decide +kernel
theorem d_Driver_renamedRival_27 : decode (mcd M_Driver_renamedRival) 27 = .ok (.iload_n 1, 1) := by decide +kernel
theorem d_Driver_renamedRival_28 : decode (mcd M_Driver_renamedRival) 28 = .ok (.invokestatic 143, 3) := by decide +kernel
theorem d_Driver_renamedRival_31 : decode (mcd M_Driver_renamedRival) 31 = .ok (.astore_n 2, 1) := by decide +kernel
theorem d_Driver_renamedRival_32 : decode (mcd M_Driver_renamedRival) 32 = .ok (.goto (-26), 3) := by decide +kernel
theorem d_Driver_renamedRival_35 : decode (mcd M_Driver_renamedRival) 35 = .ok (.aconst_null, 1) := by decide +kernel
theorem d_Driver_renamedRival_36 : decode (mcd M_Driver_renamedRival) 36 = .ok (.areturn, 1) := by decide +kernel
theorem d_Driver_settle_0 : decode (mcd M_Driver_settle) 0 = .ok (.aload_n 0, 1) := by decide +kernel
theorem d_Driver_settle_1 : decode (mcd M_Driver_settle) 1 = .ok (.getfield 34, 3) := by decide +kernel
theorem d_Driver_settle_4 : decode (mcd M_Driver_settle) 4 = .ok (.iload_n 1, 1) := by decide +kernel
theorem d_Driver_settle_5 : decode (mcd M_Driver_settle) 5 = .ok (.invokevirtual 64, 3) := by decide +kernel
theorem d_Driver_settle_8 : decode (mcd M_Driver_settle) 8 = .ok (.astore_n 2, 1) := by decide +kernel
theorem d_Driver_settle_9 : decode (mcd M_Driver_settle) 9 = .ok (.aload_n 2, 1) := by decide +kernel
theorem d_Driver_settle_10 : decode (mcd M_Driver_settle) 10 = .ok (.ifnull 22, 3) := by decide +kernel
theorem d_Driver_settle_13 : decode (mcd M_Driver_settle) 13 = .ok (.aload_n 2, 1) := by decide +kernel
theorem d_Driver_settle_14 : decode (mcd M_Driver_settle) 14 = .ok (.getfield 68, 3) := by decide +kernel
theorem d_Driver_settle_17 : decode (mcd M_Driver_settle) 17 = .ok (.bipush 8, 2) := by decide +kernel
theorem d_Driver_settle_19 : decode (mcd M_Driver_settle) 19 = .ok (.if_icmp .ne 13, 3) := by decide +kernel
theorem d_Driver_settle_22 : decode (mcd M_Driver_settle) 22 = .ok (.aload_n 0, 1) := by decide +kernel
theorem d_Driver_settle_23 : decode (mcd M_Driver_settle) 23 = .ok (.getfield 34, 3) := by decide +kernel
theorem d_Driver_settle_26 : decode (mcd M_Driver_settle) 26 = .ok (.invokevirtual 74, 3) := by decide +kernel
theorem d_Driver_settle_29 : decode (mcd M_Driver_settle) 29 = .ok (.ifCond .eq 4, 3) := by decide +kernel
theorem d_Driver_settle_32 : decode (mcd M_Driver_settle) 32 = .ok (.return_, 1) := by decide +kernel
theorem d_Driver_settle_33 : decode (mcd M_Driver_settle) 33 = .ok (.aload_n 2, 1) := by decide +kernel
theorem d_Driver_settle_34 : decode (mcd M_Driver_settle) 34 = .ok (.getfield 78, 3) := by decide +kernel
theorem d_Driver_settle_37 : decode (mcd M_Driver_settle) 37 = .ok (.astore_n 3, 1) := by decide +kernel
theorem d_Driver_settle_38 : decode (mcd M_Driver_settle) 38 = .ok (.aload_n 3, 1) := by decide +kernel
theorem d_Driver_settle_39 : decode (mcd M_Driver_settle) 39 = .ok (.iconst 0, 1) := by decide +kernel
theorem d_Driver_settle_40 : decode (mcd M_Driver_settle) 40 = .ok (.invokevirtual 81, 3) := by decide +kernel
theorem d_Driver_settle_43 : decode (mcd M_Driver_settle) 43 = .ok (.invokestatic 85, 3) := by decide +kernel
theorem d_Driver_settle_46 : decode (mcd M_Driver_settle) 46 = .ok (.ifCond .ne 9, 3) := by decide +kernel
theorem d_Driver_settle_49 : decode (mcd M_Driver_settle) 49 = .ok (.aload_n 0, 1) := by decide +kernel
theorem d_Driver_settle_50 : decode (mcd M_Driver_settle) 50 = .ok (.aload_n 2, 1) := by decide +kernel
theorem d_Driver_settle_51 : decode (mcd M_Driver_settle) 51 = .ok (.invokevirtual 89, 3) := by decide +kernel
theorem d_Driver_settle_54 : decode (mcd M_Driver_settle) 54 = .ok (.return_, 1) := by decide +kernel
theorem d_Driver_settle_55 : decode (mcd M_Driver_settle) 55 = .ok (.aload_n 0, 1) := by decide +kernel
theorem d_Driver_settle_56 : decode (mcd M_Driver_settle) 56 = .ok (.getfield 26, 3) := by decide +kernel
theorem d_Driver_settle_59 : decode (mcd M_Driver_settle) 59 = .ok (.aload_n 3, 1) := by decide +kernel
theorem d_Driver_settle_60 : decode (mcd M_Driver_settle) 60 = .ok (.invokevirtual 93, 3) := by decide +kernel
theorem d_Driver_settle_63 : decode (mcd M_Driver_settle) 63 = .ok (.istore 4, 2) := by decide +kernel
theorem d_Driver_settle_65 : decode (mcd M_Driver_settle) 65 = .ok (.aload_n 0, 1) := by decide +kernel
theorem d_Driver_settle_66 : decode (mcd M_Driver_settle) 66 = .ok (.getfield 30, 3) := by decide +kernel
theorem d_Driver_settle_69 : decode (mcd M_Driver_settle) 69 = .ok (.aload_n 3, 1) := by decide +kernel
theorem d_Driver_settle_70 : decode (mcd M_Driver_settle) 70 = .ok (.iload 4, 2) := by decide +kernel
theorem d_Driver_settle_72 : decode (mcd M_Driver_settle) 72 = .ok (.invokevirtual 99, 3) := by decide +kernel
theorem d_Driver_settle_75 : decode (mcd M_Driver_settle) 75 = .ok (.istore 5, 2) := by decide +kernel
theorem d_Driver_settle_77 : decode (mcd M_Driver_settle) 77 = .ok (.aload_n 0, 1) := by decide +kernel
theorem d_Driver_settle_78 : decode (mcd M_Driver_settle) 78 = .ok (.getfield 26, 3) := by decide +kernel
theorem d_Driver_settle_81 : decode (mcd M_Driver_settle) 81 = .ok (.aload_n 3, 1) := by decide +kernel
theorem d_Driver_settle_82 : decode (mcd M_Driver_settle) 82 = .ok (.iload 4, 2) := by decide +kernel
theorem d_Driver_settle_84 : decode (mcd M_Driver_settle) 84 = .ok (.invokevirtual 81, 3) := by decide +kernel
theorem d_Driver_settle_87 : decode (mcd M_Driver_settle) 87 = .ok (.invokevirtual 105, 3) := by decide +kernel
theorem d_Driver_settle_90 : decode (mcd M_Driver_settle) 90 = .ok (.ifCond .eq 21, 3) := by decide +kernel
theorem d_Driver_settle_93 : decode (mcd M_Driver_settle) 93 = .ok (.aload_n 3, 1) := by decide +kernel
theorem d_Driver_settle_94 : decode (mcd M_Driver_settle) 94 = .ok (.iload 4, 2) := by decide +kernel
theorem d_Driver_settle_96 : decode (mcd M_Driver_settle) 96 = .ok (.iconst 1, 1) := by decide +kernel
theorem d_Driver_settle_97 : decode (mcd M_Driver_settle) 97 = .ok (.iadd, 1) := by decide +kernel
theorem d_Driver_settle_98 : decode (mcd M_Driver_settle) 98 = .ok (.invokevirtual 81, 3) := by decide +kernel
theorem d_Driver_settle_101 : decode (mcd M_Driver_settle) 101 = .ok (.invokestatic 108, 3) := by decide +kernel
theorem d_Driver_settle_104 : decode (mcd M_Driver_settle) 104 = .ok (.ifCond .eq 7, 3) := by decide +kernel
theorem d_Driver_settle_107 : decode (mcd M_Driver_settle) 107 = .ok (.iconst 1, 1) := by decide +kernel
theorem d_Driver_settle_108 : decode (mcd M_Driver_settle) 108 = .ok (.goto 4, 3) := by decide +kernel
theorem d_Driver_settle_111 : decode (mcd M_Driver_settle) 111 = .ok (.iconst 0, 1) := by decide +kernel
theorem d_Driver_settle_112 : decode (mcd M_Driver_settle) 112 = .ok (.istore 6, 2) := by decide +kernel
theorem d_Driver_settle_114 : decode (mcd M_Driver_settle) 114 = .ok (.iload 5, 2) := by decide +kernel
theorem d_Driver_settle_116 : decode (mcd M_Driver_settle) 116 = .ok (.ifCond .ne 15, 3) := by decide +kernel
theorem d_Driver_settle_119 : decode (mcd M_Driver_settle) 119 = .ok (.iload 6, 2) := by decide +kernel
theorem d_Driver_settle_121 : decode (mcd M_Driver_settle) 121 = .ok (.ifCond .ne 10, 3) := by decide +kernel
theorem d_Driver_settle_124 : decode (mcd M_Driver_settle) 124 = .ok (.aload_n 2, 1) := by decide +kernel
theorem d_Driver_settle_125 : decode (mcd M_Driver_settle) 125 = .ok (.iconst 5, 1) := by decide +kernel
theorem d_Driver_settle_126 : decode (mcd M_Driver_settle) 126 = .ok (.iconst (-1), 1) := by decide +kernel
theorem d_Driver_settle_127 : decode (mcd M_Driver_settle) 127 = .ok (.invokevirtual 111, 3) := by decide +kernel
theorem d_Driver_settle_130 : decode (mcd M_Driver_settle) 130 = .ok (.return_, 1) := by decide +kernel
theorem d_Driver_settle_131 : decode (mcd M_Driver_settle) 131 = .ok (.aload_n 2, 1) := by decide +kernel
theorem d_Driver_settle_132 : decode (mcd M_Driver_settle) 132 = .ok (.iload 5, 2) := by decide +kernel
theorem d_Driver_settle_134 : decode (mcd M_Driver_settle) 134 = .ok (.invokestatic 115, 3) := by decide +kernel
theorem d_Driver_settle_137 : decode (mcd M_Driver_settle) 137 = .ok (.astore 7, 2) := by decide +kernel
theorem d_Driver_settle_139 : decode (mcd M_Driver_settle) 139 = .ok (.aload 7, 2) := by decide +kernel
theorem d_Driver_settle_141 : decode (mcd M_Driver_settle) 141 = .ok (.ifnonnull 13, 3) := by decide +kernel
theorem d_Driver_settle_144 : decode (mcd M_Driver_settle) 144 = .ok (.aload_n 0, 1) := by decide +kernel
theorem d_Driver_settle_145 : decode (mcd M_Driver_settle) 145 = .ok (.aload_n 2, 1) := by decide +kernel
theorem d_Driver_settle_146 : decode (mcd M_Driver_settle) 146 = .ok (.iload 5, 2) := by decide +kernel
theorem d_Driver_settle_148 : decode (mcd M_Driver_settle) 148 = .ok (.invokevirtual 119, 3) := by decide +kernel
theorem d_Driver_settle_151 : decode (mcd M_Driver_settle) 151 = .ok (.goto 4, 3) := by decide +kernel
theorem d_Driver_settle_154 : decode (mcd M_Driver_settle) 154 = .ok (.aconst_null, 1) := by decide +kernel
theorem d_Driver_settle_155 : decode (mcd M_Driver_settle) 155 = .ok (.astore 8, 2) := by decide +kernel
theorem d_Driver_settle_157 : decode (mcd M_Driver_settle) 157 = .ok (.aload 7, 2) := by decide +kernel
theorem d_Driver_settle_159 : decode (mcd M_Driver_settle) 159 = .ok (.ifnull 12, 3) := by decide +kernel
theorem d_Driver_settle_162 : decode (mcd M_Driver_settle) 162 = .ok (.aload_n 2, 1) := by decide +kernel
theorem d_Driver_settle_163 : decode (mcd M_Driver_settle) 163 = .ok (.aload 7, 2) := by decide +kernel
theorem d_Driver_settle_165 : decode (mcd M_Driver_settle) 165 = .ok (.invokevirtual 122, 3) := by decide +kernel
theorem d_Driver_settle_168 : decode (mcd M_Driver_settle) 168 = .ok (.goto 43, 3) := by decide +kernel
theorem d_Driver_settle_171 : decode (mcd M_Driver_settle) 171 = .ok (.aload 8, 2) := by decide +kernel
theorem d_Driver_settle_173 : decode (mcd M_Driver_settle) 173 = .ok (.ifnull 16, 3) := by decide +kernel
theorem d_Driver_settle_176 : decode (mcd M_Driver_settle) 176 = .ok (.aload_n 0, 1) := by decide +kernel
theorem d_Driver_settle_177 : decode (mcd M_Driver_settle) 177 = .ok (.getfield 47, 3) := by decide +kernel
theorem d_Driver_settle_180 : decode (mcd M_Driver_settle) 180 = .ok (.aload_n 2, 1) := by decide +kernel
theorem d_Driver_settle_181 : decode (mcd M_Driver_settle) 181 = .ok (.aload 8, 2) := by decide +kernel
theorem d_Driver_settle_183 : decode (mcd M_Driver_settle) 183 = .ok (.invokevirtual 125, 3) := by decide +kernel
theorem d_Driver_settle_186 : decode (mcd M_Driver_settle) 186 = .ok (.goto 25, 3) := by decide +kernel
theorem d_Driver_settle_189 : decode (mcd M_Driver_settle) 189 = .ok (.iload 5, 2) := by decide +kernel
theorem d_Driver_settle_191 : decode (mcd M_Driver_settle) 191 = .ok (.ifCond .eq 13, 3) := by decide +kernel
theorem d_Driver_settle_194 : decode (mcd M_Driver_settle) 194 = .ok (.aload_n 0, 1) := by decide +kernel
theorem d_Driver_settle_195 : decode (mcd M_Driver_settle) 195 = .ok (.aload_n 2, 1) := by decide +kernel
theorem d_Driver_settle_196 : decode (mcd M_Driver_settle) 196 = .ok (.iload 4, 2) := by decide +kernel
theorem d_Driver_settle_198 : decode (mcd M_Driver_settle) 198 = .ok (.invokevirtual 129, 3) := by decide +kernel
theorem d_Driver_settle_201 : decode (mcd M_Driver_settle) 201 = .ok (.goto 10, 3) := by decide +kernel
theorem d_Driver_settle_204 : decode (mcd M_Driver_settle) 204 = .ok (.aload_n 0, 1) := by decide +kernel
theorem d_Driver_settle_205 : decode (mcd M_Driver_settle) 205 = .ok (.aload_n 2, 1) := by decide +kernel
theorem d_Driver_settle_206 : decode (mcd M_Driver_settle) 206 = .ok (.iload 4, 2) := by decide +kernel
theorem d_Driver_settle_208 : decode (mcd M_Driver_settle) 208 = .ok (.invokevirtual 133, 3) := by decide +kernel
theorem d_Driver_settle_211 : decode (mcd M_Driver_settle) 211 = .ok (.return_, 1) := by decide +kernel
theorem d_Driver_settleWithoutCall_0 : decode (mcd M_Driver_settleWithoutCall) 0 = .ok (.aload_n 1, 1) := by decide +kernel
theorem d_Driver_settleWithoutCall_1 : decode (mcd M_Driver_settleWithoutCall) 1 = .ok (.getfield 78, 3) := by decide +kernel
theorem d_Driver_settleWithoutCall_4 : decode (mcd M_Driver_settleWithoutCall) 4 = .ok (.astore_n 2, 1) := by decide +kernel
theorem d_Driver_settleWithoutCall_5 : decode (mcd M_Driver_settleWithoutCall) 5 = .ok (.aload_n 0, 1) := by decide +kernel
theorem d_Driver_settleWithoutCall_6 : decode (mcd M_Driver_settleWithoutCall) 6 = .ok (.getfield 26, 3) := by decide +kernel
theorem d_Driver_settleWithoutCall_9 : decode (mcd M_Driver_settleWithoutCall) 9 = .ok (.aload_n 2, 1) := by decide +kernel
theorem d_Driver_settleWithoutCall_10 : decode (mcd M_Driver_settleWithoutCall) 10 = .ok (.iconst 0, 1) := by decide +kernel
theorem d_Driver_settleWithoutCall_11 : decode (mcd M_Driver_settleWithoutCall) 11 = .ok (.invokevirtual 81, 3) := by decide +kernel
theorem d_Driver_settleWithoutCall_14 : decode (mcd M_Driver_settleWithoutCall) 14 = .ok (.invokevirtual 136, 3) := by decide +kernel
theorem d_Driver_settleWithoutCall_17 : decode (mcd M_Driver_settleWithoutCall) 17 = .ok (.istore_n 3, 1) := by decide +kernel
theorem d_Driver_settleWithoutCall_18 : decode (mcd M_Driver_settleWithoutCall) 18 = .ok (.iload_n 3, 1) := by decide +kernel
theorem d_Driver_settleWithoutCall_19 : decode (mcd M_Driver_settleWithoutCall) 19 = .ok (.ifCond .ne 10, 3) := by decide +kernel
theorem d_Driver_settleWithoutCall_22 : decode (mcd M_Driver_settleWithoutCall) 22 = .ok (.aload_n 1, 1) := by decide +kernel
theorem d_Driver_settleWithoutCall_23 : decode (mcd M_Driver_settleWithoutCall) 23 = .ok (.iconst 1, 1) := by decide +kernel
theorem d_Driver_settleWithoutCall_24 : decode (mcd M_Driver_settleWithoutCall) 24 = .ok (.iconst (-1), 1) := by decide +kernel
theorem d_Driver_settleWithoutCall_25 : decode (mcd M_Driver_settleWithoutCall) 25 = .ok (.invokevirtual 111, 3) := by decide +kernel
theorem d_Driver_settleWithoutCall_28 : decode (mcd M_Driver_settleWithoutCall) 28 = .ok (.return_, 1) := by decide +kernel
theorem d_Driver_settleWithoutCall_29 : decode (mcd M_Driver_settleWithoutCall) 29 = .ok (.aload_n 1, 1) := by decide +kernel
theorem d_Driver_settleWithoutCall_30 : decode (mcd M_Driver_settleWithoutCall) 30 = .ok (.iconst 2, 1) := by decide +kernel
theorem d_Driver_settleWithoutCall_31 : decode (mcd M_Driver_settleWithoutCall) 31 = .ok (.aload_n 2, 1) := by decide +kernel
theorem d_Driver_settleWithoutCall_32 : decode (mcd M_Driver_settleWithoutCall) 32 = .ok (.iconst 0, 1) := by decide +kernel
theorem d_Driver_settleWithoutCall_33 : decode (mcd M_Driver_settleWithoutCall) 33 = .ok (.invokevirtual 81, 3) := by decide +kernel
theorem d_Driver_settleWithoutCall_36 : decode (mcd M_Driver_settleWithoutCall) 36 = .ok (.bipush 100, 2) := by decide +kernel
theorem d_Driver_settleWithoutCall_38 : decode (mcd M_Driver_settleWithoutCall) 38 = .ok (.isub, 1) := by decide +kernel
theorem d_Driver_settleWithoutCall_39 : decode (mcd M_Driver_settleWithoutCall) 39 = .ok (.invokevirtual 111, 3) := by decide +kernel
theorem d_Driver_settleWithoutCall_42 : decode (mcd M_Driver_settleWithoutCall) 42 = .ok (.iconst 1, 1) := by decide +kernel
theorem d_Driver_settleWithoutCall_43 : decode (mcd M_Driver_settleWithoutCall) 43 = .ok (.istore 4, 2) := by decide +kernel
theorem d_Driver_settleWithoutCall_45 : decode (mcd M_Driver_settleWithoutCall) 45 = .ok (.iconst 0, 1) := by decide +kernel
theorem d_Driver_settleWithoutCall_46 : decode (mcd M_Driver_settleWithoutCall) 46 = .ok (.istore 5, 2) := by decide +kernel
theorem d_Driver_settleWithoutCall_48 : decode (mcd M_Driver_settleWithoutCall) 48 = .ok (.iload 5, 2) := by decide +kernel
theorem d_Driver_settleWithoutCall_50 : decode (mcd M_Driver_settleWithoutCall) 50 = .ok (.iload_n 3, 1) := by decide +kernel
theorem d_Driver_settleWithoutCall_51 : decode (mcd M_Driver_settleWithoutCall) 51 = .ok (.if_icmp .ge 39, 3) := by decide +kernel
theorem d_Driver_settleWithoutCall_54 : decode (mcd M_Driver_settleWithoutCall) 54 = .ok (.aload_n 0, 1) := by decide +kernel
theorem d_Driver_settleWithoutCall_55 : decode (mcd M_Driver_settleWithoutCall) 55 = .ok (.getfield 26, 3) := by decide +kernel
theorem d_Driver_settleWithoutCall_58 : decode (mcd M_Driver_settleWithoutCall) 58 = .ok (.aload_n 2, 1) := by decide +kernel
theorem d_Driver_settleWithoutCall_59 : decode (mcd M_Driver_settleWithoutCall) 59 = .ok (.iload 4, 2) := by decide +kernel
theorem d_Driver_settleWithoutCall_61 : decode (mcd M_Driver_settleWithoutCall) 61 = .ok (.invokevirtual 139, 3) := by decide +kernel
theorem d_Driver_settleWithoutCall_64 : decode (mcd M_Driver_settleWithoutCall) 64 = .ok (.istore 6, 2) := by decide +kernel
theorem d_Driver_settleWithoutCall_66 : decode (mcd M_Driver_settleWithoutCall) 66 = .ok (.aload_n 0, 1) := by decide +kernel
theorem d_Driver_settleWithoutCall_67 : decode (mcd M_Driver_settleWithoutCall) 67 = .ok (.getfield 34, 3) := by decide +kernel
theorem d_Driver_settleWithoutCall_70 : decode (mcd M_Driver_settleWithoutCall) 70 = .ok (.aload_n 1, 1) := by decide +kernel
theorem d_Driver_settleWithoutCall_71 : decode (mcd M_Driver_settleWithoutCall) 71 = .ok (.aload_n 2, 1) := by decide +kernel
theorem d_Driver_settleWithoutCall_72 : decode (mcd M_Driver_settleWithoutCall) 72 = .ok (.iload 4, 2) := by decide +kernel
theorem d_Driver_settleWithoutCall_74 : decode (mcd M_Driver_settleWithoutCall) 74 = .ok (.iload 6, 2) := by decide +kernel
theorem d_Driver_settleWithoutCall_76 : decode (mcd M_Driver_settleWithoutCall) 76 = .ok (.invokevirtual 60, 3) := by decide +kernel
theorem d_Driver_settleWithoutCall_79 : decode (mcd M_Driver_settleWithoutCall) 79 = .ok (.pop, 1) := by decide +kernel
theorem d_Driver_settleWithoutCall_80 : decode (mcd M_Driver_settleWithoutCall) 80 = .ok (.iload 6, 2) := by decide +kernel
theorem d_Driver_settleWithoutCall_82 : decode (mcd M_Driver_settleWithoutCall) 82 = .ok (.istore 4, 2) := by decide +kernel
theorem d_Driver_settleWithoutCall_84 : decode (mcd M_Driver_settleWithoutCall) 84 = .ok (.iinc 5 1, 3) := by decide +kernel
theorem d_Driver_settleWithoutCall_87 : decode (mcd M_Driver_settleWithoutCall) 87 = .ok (.goto (-39), 3) := by decide +kernel
theorem d_Driver_settleWithoutCall_90 : decode (mcd M_Driver_settleWithoutCall) 90 = .ok (.return_, 1) := by decide +kernel
theorem d_Driver_split_0 : decode (mcd M_Driver_split) 0 = .ok (.aload_n 1, 1) := by decide +kernel
theorem d_Driver_split_1 : decode (mcd M_Driver_split) 1 = .ok (.getfield 78, 3) := by decide +kernel
theorem d_Driver_split_4 : decode (mcd M_Driver_split) 4 = .ok (.iload_n 2, 1) := by decide +kernel
theorem d_Driver_split_5 : decode (mcd M_Driver_split) 5 = .ok (.iconst 1, 1) := by decide +kernel
theorem d_Driver_split_6 : decode (mcd M_Driver_split) 6 = .ok (.iadd, 1) := by decide +kernel
theorem d_Driver_split_7 : decode (mcd M_Driver_split) 7 = .ok (.invokevirtual 81, 3) := by decide +kernel
theorem d_Driver_split_10 : decode (mcd M_Driver_split) 10 = .ok (.istore_n 3, 1) := by decide +kernel
theorem d_Driver_split_11 : decode (mcd M_Driver_split) 11 = .ok (.aload_n 1, 1) := by decide +kernel
theorem d_Driver_split_12 : decode (mcd M_Driver_split) 12 = .ok (.iconst 4, 1) := by decide +kernel
theorem d_Driver_split_13 : decode (mcd M_Driver_split) 13 = .ok (.iload_n 3, 1) := by decide +kernel
theorem d_Driver_split_14 : decode (mcd M_Driver_split) 14 = .ok (.invokevirtual 111, 3) := by decide +kernel
theorem d_Driver_split_17 : decode (mcd M_Driver_split) 17 = .ok (.iconst 0, 1) := by decide +kernel
theorem d_Driver_split_18 : decode (mcd M_Driver_split) 18 = .ok (.istore 4, 2) := by decide +kernel
theorem d_Driver_split_20 : decode (mcd M_Driver_split) 20 = .ok (.iload 4, 2) := by decide +kernel
theorem d_Driver_split_22 : decode (mcd M_Driver_split) 22 = .ok (.bipush 6, 2) := by decide +kernel
theorem d_Driver_split_24 : decode (mcd M_Driver_split) 24 = .ok (.if_icmp .ge 48, 3) := by decide +kernel
theorem d_Driver_split_27 : decode (mcd M_Driver_split) 27 = .ok (.aload_n 0, 1) := by decide +kernel
theorem d_Driver_split_28 : decode (mcd M_Driver_split) 28 = .ok (.getfield 34, 3) := by decide +kernel
theorem d_Driver_split_31 : decode (mcd M_Driver_split) 31 = .ok (.invokevirtual 74, 3) := by decide +kernel
theorem d_Driver_split_34 : decode (mcd M_Driver_split) 34 = .ok (.ifCond .ne 38, 3) := by decide +kernel
theorem d_Driver_split_37 : decode (mcd M_Driver_split) 37 = .ok (.aload_n 0, 1) := by decide +kernel
theorem d_Driver_split_38 : decode (mcd M_Driver_split) 38 = .ok (.getfield 30, 3) := by decide +kernel
theorem d_Driver_split_41 : decode (mcd M_Driver_split) 41 = .ok (.aload_n 1, 1) := by decide +kernel
theorem d_Driver_split_42 : decode (mcd M_Driver_split) 42 = .ok (.getfield 78, 3) := by decide +kernel
theorem d_Driver_split_45 : decode (mcd M_Driver_split) 45 = .ok (.iload_n 2, 1) := by decide +kernel
theorem d_Driver_split_46 : decode (mcd M_Driver_split) 46 = .ok (.invokevirtual 81, 3) := by decide +kernel
theorem d_Driver_split_49 : decode (mcd M_Driver_split) 49 = .ok (.iload 4, 2) := by decide +kernel
theorem d_Driver_split_51 : decode (mcd M_Driver_split) 51 = .ok (.invokevirtual 162, 3) := by decide +kernel
theorem d_Driver_split_54 : decode (mcd M_Driver_split) 54 = .ok (.ifnull 12, 3) := by decide +kernel
theorem d_Driver_split_57 : decode (mcd M_Driver_split) 57 = .ok (.aload_n 0, 1) := by decide +kernel
theorem d_Driver_split_58 : decode (mcd M_Driver_split) 58 = .ok (.aload_n 1, 1) := by decide +kernel
theorem d_Driver_split_59 : decode (mcd M_Driver_split) 59 = .ok (.iload_n 2, 1) := by decide +kernel
theorem d_Driver_split_60 : decode (mcd M_Driver_split) 60 = .ok (.iload_n 3, 1) := by decide +kernel
theorem d_Driver_split_61 : decode (mcd M_Driver_split) 61 = .ok (.iload 4, 2) := by decide +kernel
theorem d_Driver_split_63 : decode (mcd M_Driver_split) 63 = .ok (.invokevirtual 166, 3) := by decide +kernel
theorem d_Driver_split_66 : decode (mcd M_Driver_split) 66 = .ok (.iinc 4 1, 3) := by decide +kernel
theorem d_Driver_split_69 : decode (mcd M_Driver_split) 69 = .ok (.goto (-49), 3) := by decide +kernel
theorem d_Driver_split_72 : decode (mcd M_Driver_split) 72 = .ok (.return_, 1) := by decide +kernel
theorem d_Driver_step_0 : decode (mcd M_Driver_step) 0 = .ok (.aload_n 1, 1) := by decide +kernel
theorem d_Driver_step_1 : decode (mcd M_Driver_step) 1 = .ok (.iconst 3, 1) := by decide +kernel
theorem d_Driver_step_2 : decode (mcd M_Driver_step) 2 = .ok (.iconst (-1), 1) := by decide +kernel
theorem d_Driver_step_3 : decode (mcd M_Driver_step) 3 = .ok (.invokevirtual 111, 3) := by decide +kernel
theorem d_Driver_step_6 : decode (mcd M_Driver_step) 6 = .ok (.aload_n 0, 1) := by decide +kernel
theorem d_Driver_step_7 : decode (mcd M_Driver_step) 7 = .ok (.getfield 30, 3) := by decide +kernel
theorem d_Driver_step_10 : decode (mcd M_Driver_step) 10 = .ok (.aload_n 1, 1) := by decide +kernel
theorem d_Driver_step_11 : decode (mcd M_Driver_step) 11 = .ok (.getfield 78, 3) := by decide +kernel
theorem d_Driver_step_14 : decode (mcd M_Driver_step) 14 = .ok (.iload_n 2, 1) := by decide +kernel
theorem d_Driver_step_15 : decode (mcd M_Driver_step) 15 = .ok (.aload_n 0, 1) := by decide +kernel
theorem d_Driver_step_16 : decode (mcd M_Driver_step) 16 = .ok (.getfield 14, 3) := by decide +kernel
theorem d_Driver_step_19 : decode (mcd M_Driver_step) 19 = .ok (.invokevirtual 158, 3) := by decide +kernel
theorem d_Driver_step_22 : decode (mcd M_Driver_step) 22 = .ok (.aload_n 0, 1) := by decide +kernel
theorem d_Driver_step_23 : decode (mcd M_Driver_step) 23 = .ok (.getfield 34, 3) := by decide +kernel
theorem d_Driver_step_26 : decode (mcd M_Driver_step) 26 = .ok (.aload_n 1, 1) := by decide +kernel
theorem d_Driver_step_27 : decode (mcd M_Driver_step) 27 = .ok (.aload_n 0, 1) := by decide +kernel
theorem d_Driver_step_28 : decode (mcd M_Driver_step) 28 = .ok (.getfield 14, 3) := by decide +kernel
theorem d_Driver_step_31 : decode (mcd M_Driver_step) 31 = .ok (.iconst 0, 1) := by decide +kernel
theorem d_Driver_step_32 : decode (mcd M_Driver_step) 32 = .ok (.aload_n 0, 1) := by decide +kernel
theorem d_Driver_step_33 : decode (mcd M_Driver_step) 33 = .ok (.getfield 14, 3) := by decide +kernel
theorem d_Driver_step_36 : decode (mcd M_Driver_step) 36 = .ok (.invokevirtual 56, 3) := by decide +kernel
theorem d_Driver_step_39 : decode (mcd M_Driver_step) 39 = .ok (.invokevirtual 60, 3) := by decide +kernel
theorem d_Driver_step_42 : decode (mcd M_Driver_step) 42 = .ok (.pop, 1) := by decide +kernel
theorem d_Driver_step_43 : decode (mcd M_Driver_step) 43 = .ok (.return_, 1) := by decide +kernel
