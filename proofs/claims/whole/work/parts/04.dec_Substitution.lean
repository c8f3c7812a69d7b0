theorem d_Substitution_init_0 : decode (mcd M_Substitution_init) 0 = .ok (.aload_n 0, 1) := by decide +kernel
theorem d_Substitution_init_1 : decode (mcd M_Substitution_init) 1 = .ok (.invokespecial 3, 3) := by decide +kernel
theorem d_Substitution_init_4 : decode (mcd M_Substitution_init) 4 = .ok (.aload_n 0, 1) := by decide +kernel
theorem d_Substitution_init_5 : decode (mcd M_Substitution_init) 5 = .ok (.bipush 100, 2) := by decide +kernel
theorem d_Substitution_init_7 : decode (mcd M_Substitution_init) 7 = .ok (.anewarray 9, 3) := by decide +kernel
theorem d_Substitution_init_10 : decode (mcd M_Substitution_init) 10 = .ok (.putfield 11, 3) := by decide +kernel
theorem d_Substitution_init_13 : decode (mcd M_Substitution_init) 13 = .ok (.aload_n 0, 1) := by decide +kernel
theorem d_Substitution_init_14 : decode (mcd M_Substitution_init) 14 = .ok (.bipush 100, 2) := by decide +kernel
theorem d_Substitution_init_16 : decode (mcd M_Substitution_init) 16 = .ok (.newarray .int, 2) := by decide +kernel
theorem d_Substitution_init_18 : decode (mcd M_Substitution_init) 18 = .ok (.putfield 17, 3) := by decide +kernel
theorem d_Substitution_init_21 : decode (mcd M_Substitution_init) 21 = .ok (.aload_n 0, 1) := by decide +kernel
theorem d_Substitution_init_22 : decode (mcd M_Substitution_init) 22 = .ok (.bipush 100, 2) := by decide +kernel
theorem d_Substitution_init_24 : decode (mcd M_Substitution_init) 24 = .ok (.newarray .int, 2) := by decide +kernel
theorem d_Substitution_init_26 : decode (mcd M_Substitution_init) 26 = .ok (.putfield 21, 3) := by decide +kernel
theorem d_Substitution_init_29 : decode (mcd M_Substitution_init) 29 = .ok (.aload_n 0, 1) := by decide +kernel
theorem d_Substitution_init_30 : decode (mcd M_Substitution_init) 30 = .ok (.bipush 100, 2) := by decide +kernel
theorem d_Substitution_init_32 : decode (mcd M_Substitution_init) 32 = .ok (.newarray .int, 2) := by decide +kernel
theorem d_Substitution_init_34 : decode (mcd M_Substitution_init) 34 = .ok (.putfield 24, 3) := by decide +kernel
theorem d_Substitution_init_37 : decode (mcd M_Substitution_init) 37 = .ok (.aload_n 0, 1) := by decide +kernel
theorem d_Substitution_init_38 : decode (mcd M_Substitution_init) 38 = .ok (.iconst 0, 1) := by decide +kernel
theorem d_Substitution_init_39 : decode (mcd M_Substitution_init) 39 = .ok (.putfield 27, 3) := by decide +kernel
theorem d_Substitution_init_42 : decode (mcd M_Substitution_init) 42 = .ok (.return_, 1) := by decide +kernel
theorem d_Substitution_apply_0 : decode (mcd M_Substitution_apply) 0 = .ok (.iconst 0, 1) := by decide +kernel
theorem d_Substitution_apply_1 : decode (mcd M_Substitution_apply) 1 = .ok (.istore_n 3, 1) := by decide +kernel
theorem d_Substitution_apply_2 : decode (mcd M_Substitution_apply) 2 = .ok (.iload_n 3, 1) := by decide +kernel
theorem d_Substitution_apply_3 : decode (mcd M_Substitution_apply) 3 = .ok (.aload_n 1, 1) := by decide +kernel
theorem d_Substitution_apply_4 : decode (mcd M_Substitution_apply) 4 = .ok (.invokevirtual 35, 3) := by decide +kernel
theorem d_Substitution_apply_7 : decode (mcd M_Substitution_apply) 7 = .ok (.if_icmp .ge 89, 3) := by decide +kernel
theorem d_Substitution_apply_10 : decode (mcd M_Substitution_apply) 10 = .ok (.aload_n 2, 1) := by decide +kernel
theorem d_Substitution_apply_11 : decode (mcd M_Substitution_apply) 11 = .ok (.invokevirtual 39, 3) := by decide +kernel
theorem d_Substitution_apply_14 : decode (mcd M_Substitution_apply) 14 = .ok (.ifCond .ne 82, 3) := by decide +kernel
theorem d_Substitution_apply_17 : decode (mcd M_Substitution_apply) 17 = .ok (.aload_n 1, 1) := by decide +kernel
theorem d_Substitution_apply_18 : decode (mcd M_Substitution_apply) 18 = .ok (.iload_n 3, 1) := by decide +kernel
theorem d_Substitution_apply_19 : decode (mcd M_Substitution_apply) 19 = .ok (.invokevirtual 43, 3) := by decide +kernel
theorem d_Substitution_apply_22 : decode (mcd M_Substitution_apply) 22 = .ok (.istore 4, 2) := by decide +kernel
theorem d_Substitution_apply_24 : decode (mcd M_Substitution_apply) 24 = .ok (.iload 4, 2) := by decide +kernel
theorem d_Substitution_apply_26 : decode (mcd M_Substitution_apply) 26 = .ok (.invokestatic 31, 3) := by decide +kernel
theorem d_Substitution_apply_29 : decode (mcd M_Substitution_apply) 29 = .ok (.ifCond .eq 55, 3) := by decide +kernel
theorem d_Substitution_apply_32 : decode (mcd M_Substitution_apply) 32 = .ok (.aload_n 0, 1) := by decide +kernel
theorem d_Substitution_apply_33 : decode (mcd M_Substitution_apply) 33 = .ok (.getfield 24, 3) := by decide +kernel
theorem d_Substitution_apply_36 : decode (mcd M_Substitution_apply) 36 = .ok (.iload 4, 2) := by decide +kernel
theorem d_Substitution_apply_38 : decode (mcd M_Substitution_apply) 38 = .ok (.iaload, 1) := by decide +kernel
theorem d_Substitution_apply_39 : decode (mcd M_Substitution_apply) 39 = .ok (.aload_n 0, 1) := by decide +kernel
theorem d_Substitution_apply_40 : decode (mcd M_Substitution_apply) 40 = .ok (.getfield 27, 3) := by decide +kernel
theorem d_Substitution_apply_43 : decode (mcd M_Substitution_apply) 43 = .ok (.if_icmp .ne 41, 3) := by decide +kernel
theorem d_Substitution_apply_46 : decode (mcd M_Substitution_apply) 46 = .ok (.aload_n 0, 1) := by decide +kernel
theorem d_Substitution_apply_47 : decode (mcd M_Substitution_apply) 47 = .ok (.getfield 11, 3) := by decide +kernel
theorem d_Substitution_apply_50 : decode (mcd M_Substitution_apply) 50 = .ok (.iload 4, 2) := by decide +kernel
theorem d_Substitution_apply_52 : decode (mcd M_Substitution_apply) 52 = .ok (.aaload, 1) := by decide +kernel
theorem d_Substitution_apply_53 : decode (mcd M_Substitution_apply) 53 = .ok (.ifnull 31, 3) := by decide +kernel
theorem d_Substitution_apply_56 : decode (mcd M_Substitution_apply) 56 = .ok (.aload_n 2, 1) := by decide +kernel
theorem d_Substitution_apply_57 : decode (mcd M_Substitution_apply) 57 = .ok (.aload_n 0, 1) := by decide +kernel
theorem d_Substitution_apply_58 : decode (mcd M_Substitution_apply) 58 = .ok (.getfield 11, 3) := by decide +kernel
theorem d_Substitution_apply_61 : decode (mcd M_Substitution_apply) 61 = .ok (.iload 4, 2) := by decide +kernel
theorem d_Substitution_apply_63 : decode (mcd M_Substitution_apply) 63 = .ok (.aaload, 1) := by decide +kernel
theorem d_Substitution_apply_64 : decode (mcd M_Substitution_apply) 64 = .ok (.aload_n 0, 1) := by decide +kernel
theorem d_Substitution_apply_65 : decode (mcd M_Substitution_apply) 65 = .ok (.getfield 17, 3) := by decide +kernel
theorem d_Substitution_apply_68 : decode (mcd M_Substitution_apply) 68 = .ok (.iload 4, 2) := by decide +kernel
theorem d_Substitution_apply_70 : decode (mcd M_Substitution_apply) 70 = .ok (.iaload, 1) := by decide +kernel
theorem d_Substitution_apply_71 : decode (mcd M_Substitution_apply) 71 = .ok (.aload_n 0, 1) := by decide +kernel
theorem d_Substitution_apply_72 : decode (mcd M_Substitution_apply) 72 = .ok (.getfield 21, 3) := by decide +kernel
theorem d_Substitution_apply_75 : decode (mcd M_Substitution_apply) 75 = .ok (.iload 4, 2) := by decide +kernel
theorem d_Substitution_apply_77 : decode (mcd M_Substitution_apply) 77 = .ok (.iaload, 1) := by decide +kernel
theorem d_Substitution_apply_78 : decode (mcd M_Substitution_apply) 78 = .ok (.invokevirtual 47, 3) := by decide +kernel
theorem d_Substitution_apply_81 : decode (mcd M_Substitution_apply) 81 = .ok (.goto 9, 3) := by decide +kernel
theorem d_Substitution_apply_84 : decode (mcd M_Substitution_apply) 84 = .ok (.aload_n 2, 1) := by decide +kernel
theorem d_Substitution_apply_85 : decode (mcd M_Substitution_apply) 85 = .ok (.iload 4, 2) := by decide +kernel
theorem d_Substitution_apply_87 : decode (mcd M_Substitution_apply) 87 = .ok (.invokevirtual 51, 3) := by decide +kernel
theorem d_Substitution_apply_90 : decode (mcd M_Substitution_apply) 90 = .ok (.iinc 3 1, 3) := by decide +kernel
theorem d_Substitution_apply_93 : decode (mcd M_Substitution_apply) 93 = .ok (.goto (-91), 3) := by decide +kernel
theorem d_Substitution_apply_96 : decode (mcd M_Substitution_apply) 96 = .ok (.return_, 1) := by decide +kernel
theorem d_Substitution_begin_0 : decode (mcd M_Substitution_begin) 0 = .ok (.aload_n 0, 1) := by decide +kernel
theorem d_Substitution_begin_1 : decode (mcd M_Substitution_begin) 1 = .ok (.dup, 1) := by decide +kernel
theorem d_Substitution_begin_2 : decode (mcd M_Substitution_begin) 2 = .ok (.getfield 27, 3) := by decide +kernel
theorem d_Substitution_begin_5 : decode (mcd M_Substitution_begin) 5 = .ok (.iconst 1, 1) := by decide +kernel
theorem d_Substitution_begin_6 : decode (mcd M_Substitution_begin) 6 = .ok (.iadd, 1) := by decide +kernel
theorem d_Substitution_begin_7 : decode (mcd M_Substitution_begin) 7 = .ok (.putfield 27, 3) := by decide +kernel
theorem d_Substitution_begin_10 : decode (mcd M_Substitution_begin) 10 = .ok (.return_, 1) := by decide +kernel
theorem d_Substitution_bind_0 : decode (mcd M_Substitution_bind) 0 = .ok (.iload_n 1, 1) := by decide +kernel
theorem d_Substitution_bind_1 : decode (mcd M_Substitution_bind) 1 = .ok (.invokestatic 31, 3) := by decide +kernel
theorem d_Substitution_bind_4 : decode (mcd M_Substitution_bind) 4 = .ok (.ifCond .eq 35, 3) := by decide +kernel
theorem d_Substitution_bind_7 : decode (mcd M_Substitution_bind) 7 = .ok (.aload_n 0, 1) := by decide +kernel
theorem d_Substitution_bind_8 : decode (mcd M_Substitution_bind) 8 = .ok (.getfield 11, 3) := by decide +kernel
theorem d_Substitution_bind_11 : decode (mcd M_Substitution_bind) 11 = .ok (.iload_n 1, 1) := by decide +kernel
theorem d_Substitution_bind_12 : decode (mcd M_Substitution_bind) 12 = .ok (.aload_n 2, 1) := by decide +kernel
theorem d_Substitution_bind_13 : decode (mcd M_Substitution_bind) 13 = .ok (.aastore, 1) := by decide +kernel
theorem d_Substitution_bind_14 : decode (mcd M_Substitution_bind) 14 = .ok (.aload_n 0, 1) := by decide +kernel
theorem d_Substitution_bind_15 : decode (mcd M_Substitution_bind) 15 = .ok (.getfield 17, 3) := by decide +kernel
theorem d_Substitution_bind_18 : decode (mcd M_Substitution_bind) 18 = .ok (.iload_n 1, 1) := by decide +kernel
theorem d_Substitution_bind_19 : decode (mcd M_Substitution_bind) 19 = .ok (.iload_n 3, 1) := by decide +kernel
theorem d_Substitution_bind_20 : decode (mcd M_Substitution_bind) 20 = .ok (.iastore, 1) := by decide +kernel
theorem d_Substitution_bind_21 : decode (mcd M_Substitution_bind) 21 = .ok (.aload_n 0, 1) := by decide +kernel
theorem d_Substitution_bind_22 : decode (mcd M_Substitution_bind) 22 = .ok (.getfield 21, 3) := by decide +kernel
theorem d_Substitution_bind_25 : decode (mcd M_Substitution_bind) 25 = .ok (.iload_n 1, 1) := by decide +kernel
theorem d_Substitution_bind_26 : decode (mcd M_Substitution_bind) 26 = .ok (.iload 4, 2) := by decide +kernel
theorem d_Substitution_bind_28 : decode (mcd M_Substitution_bind) 28 = .ok (.iastore, 1) := by decide +kernel
theorem d_Substitution_bind_29 : decode (mcd M_Substitution_bind) 29 = .ok (.aload_n 0, 1) := by decide +kernel
theorem d_Substitution_bind_30 : decode (mcd M_Substitution_bind) 30 = .ok (.getfield 24, 3) := by decide +kernel
theorem d_Substitution_bind_33 : decode (mcd M_Substitution_bind) 33 = .ok (.iload_n 1, 1) := by decide +kernel
theorem d_Substitution_bind_34 : decode (mcd M_Substitution_bind) 34 = .ok (.aload_n 0, 1) := by decide +kernel
theorem d_Substitution_bind_35 : decode (mcd M_Substitution_bind) 35 = .ok (.getfield 27, 3) := by decide +kernel
theorem d_Substitution_bind_38 : decode (mcd M_Substitution_bind) 38 = .ok (.iastore, 1) := by decide +kernel
theorem d_Substitution_bind_39 : decode (mcd M_Substitution_bind) 39 = .ok (.return_, 1) := by decide +kernel
