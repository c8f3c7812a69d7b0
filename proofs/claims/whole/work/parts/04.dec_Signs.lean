theorem d_Signs_init_0 : decode (mcd M_Signs_init) 0 = .ok (.aload_n 0, 1) := by decide +kernel
theorem d_Signs_init_1 : decode (mcd M_Signs_init) 1 = .ok (.invokespecial 3, 3) := by decide +kernel
theorem d_Signs_init_4 : decode (mcd M_Signs_init) 4 = .ok (.aload_n 0, 1) := by decide +kernel
theorem d_Signs_init_5 : decode (mcd M_Signs_init) 5 = .ok (.sipush 401, 3) := by decide +kernel
theorem d_Signs_init_8 : decode (mcd M_Signs_init) 8 = .ok (.newarray .int, 2) := by decide +kernel
theorem d_Signs_init_10 : decode (mcd M_Signs_init) 10 = .ok (.putfield 9, 3) := by decide +kernel
theorem d_Signs_init_13 : decode (mcd M_Signs_init) 13 = .ok (.aload_n 0, 1) := by decide +kernel
theorem d_Signs_init_14 : decode (mcd M_Signs_init) 14 = .ok (.sipush 401, 3) := by decide +kernel
theorem d_Signs_init_17 : decode (mcd M_Signs_init) 17 = .ok (.newarray .boolean, 2) := by decide +kernel
theorem d_Signs_init_19 : decode (mcd M_Signs_init) 19 = .ok (.putfield 15, 3) := by decide +kernel
theorem d_Signs_init_22 : decode (mcd M_Signs_init) 22 = .ok (.aload_n 0, 1) := by decide +kernel
theorem d_Signs_init_23 : decode (mcd M_Signs_init) 23 = .ok (.bipush 40, 2) := by decide +kernel
theorem d_Signs_init_25 : decode (mcd M_Signs_init) 25 = .ok (.newarray .int, 2) := by decide +kernel
theorem d_Signs_init_27 : decode (mcd M_Signs_init) 27 = .ok (.putfield 19, 3) := by decide +kernel
theorem d_Signs_init_30 : decode (mcd M_Signs_init) 30 = .ok (.aload_n 0, 1) := by decide +kernel
theorem d_Signs_init_31 : decode (mcd M_Signs_init) 31 = .ok (.bipush 40, 2) := by decide +kernel
theorem d_Signs_init_33 : decode (mcd M_Signs_init) 33 = .ok (.newarray .int, 2) := by decide +kernel
theorem d_Signs_init_35 : decode (mcd M_Signs_init) 35 = .ok (.putfield 22, 3) := by decide +kernel
theorem d_Signs_init_38 : decode (mcd M_Signs_init) 38 = .ok (.aload_n 0, 1) := by decide +kernel
theorem d_Signs_init_39 : decode (mcd M_Signs_init) 39 = .ok (.bipush 40, 2) := by decide +kernel
theorem d_Signs_init_41 : decode (mcd M_Signs_init) 41 = .ok (.newarray .long, 2) := by decide +kernel
theorem d_Signs_init_43 : decode (mcd M_Signs_init) 43 = .ok (.putfield 25, 3) := by decide +kernel
theorem d_Signs_init_46 : decode (mcd M_Signs_init) 46 = .ok (.iconst 0, 1) := by decide +kernel
theorem d_Signs_init_47 : decode (mcd M_Signs_init) 47 = .ok (.istore_n 1, 1) := by decide +kernel
theorem d_Signs_init_48 : decode (mcd M_Signs_init) 48 = .ok (.iload_n 1, 1) := by decide +kernel
theorem d_Signs_init_49 : decode (mcd M_Signs_init) 49 = .ok (.bipush 6, 2) := by decide +kernel
theorem d_Signs_init_51 : decode (mcd M_Signs_init) 51 = .ok (.if_icmp .ge 23, 3) := by decide +kernel
theorem d_Signs_init_54 : decode (mcd M_Signs_init) 54 = .ok (.aload_n 0, 1) := by decide +kernel
theorem d_Signs_init_55 : decode (mcd M_Signs_init) 55 = .ok (.getfield 9, 3) := by decide +kernel
theorem d_Signs_init_58 : decode (mcd M_Signs_init) 58 = .ok (.bipush 100, 2) := by decide +kernel
theorem d_Signs_init_60 : decode (mcd M_Signs_init) 60 = .ok (.iload_n 1, 1) := by decide +kernel
theorem d_Signs_init_61 : decode (mcd M_Signs_init) 61 = .ok (.iadd, 1) := by decide +kernel
theorem d_Signs_init_62 : decode (mcd M_Signs_init) 62 = .ok (.getstatic 29, 3) := by decide +kernel
theorem d_Signs_init_65 : decode (mcd M_Signs_init) 65 = .ok (.iload_n 1, 1) := by decide +kernel
theorem d_Signs_init_66 : decode (mcd M_Signs_init) 66 = .ok (.iaload, 1) := by decide +kernel
theorem d_Signs_init_67 : decode (mcd M_Signs_init) 67 = .ok (.iastore, 1) := by decide +kernel
theorem d_Signs_init_68 : decode (mcd M_Signs_init) 68 = .ok (.iinc 1 1, 3) := by decide +kernel
theorem d_Signs_init_71 : decode (mcd M_Signs_init) 71 = .ok (.goto (-23), 3) := by decide +kernel
theorem d_Signs_init_74 : decode (mcd M_Signs_init) 74 = .ok (.return_, 1) := by decide +kernel
theorem d_Signs_behind_0 : decode (mcd M_Signs_behind) 0 = .ok (.iconst 1, 1) := by decide +kernel
theorem d_Signs_behind_1 : decode (mcd M_Signs_behind) 1 = .ok (.istore_n 3, 1) := by decide +kernel
theorem d_Signs_behind_2 : decode (mcd M_Signs_behind) 2 = .ok (.iload_n 2, 1) := by decide +kernel
theorem d_Signs_behind_3 : decode (mcd M_Signs_behind) 3 = .ok (.istore 4, 2) := by decide +kernel
theorem d_Signs_behind_5 : decode (mcd M_Signs_behind) 5 = .ok (.iload 4, 2) := by decide +kernel
theorem d_Signs_behind_7 : decode (mcd M_Signs_behind) 7 = .ok (.aload_n 1, 1) := by decide +kernel
theorem d_Signs_behind_8 : decode (mcd M_Signs_behind) 8 = .ok (.invokevirtual 36, 3) := by decide +kernel
theorem d_Signs_behind_11 : decode (mcd M_Signs_behind) 11 = .ok (.if_icmp .ge 28, 3) := by decide +kernel
theorem d_Signs_behind_14 : decode (mcd M_Signs_behind) 14 = .ok (.iload_n 3, 1) := by decide +kernel
theorem d_Signs_behind_15 : decode (mcd M_Signs_behind) 15 = .ok (.ifCond .le 24, 3) := by decide +kernel
theorem d_Signs_behind_18 : decode (mcd M_Signs_behind) 18 = .ok (.iload_n 3, 1) := by decide +kernel
theorem d_Signs_behind_19 : decode (mcd M_Signs_behind) 19 = .ok (.aload_n 0, 1) := by decide +kernel
theorem d_Signs_behind_20 : decode (mcd M_Signs_behind) 20 = .ok (.aload_n 1, 1) := by decide +kernel
theorem d_Signs_behind_21 : decode (mcd M_Signs_behind) 21 = .ok (.iload 4, 2) := by decide +kernel
theorem d_Signs_behind_23 : decode (mcd M_Signs_behind) 23 = .ok (.invokevirtual 42, 3) := by decide +kernel
theorem d_Signs_behind_26 : decode (mcd M_Signs_behind) 26 = .ok (.invokevirtual 46, 3) := by decide +kernel
theorem d_Signs_behind_29 : decode (mcd M_Signs_behind) 29 = .ok (.iconst 1, 1) := by decide +kernel
theorem d_Signs_behind_30 : decode (mcd M_Signs_behind) 30 = .ok (.isub, 1) := by decide +kernel
theorem d_Signs_behind_31 : decode (mcd M_Signs_behind) 31 = .ok (.iadd, 1) := by decide +kernel
theorem d_Signs_behind_32 : decode (mcd M_Signs_behind) 32 = .ok (.istore_n 3, 1) := by decide +kernel
theorem d_Signs_behind_33 : decode (mcd M_Signs_behind) 33 = .ok (.iinc 4 1, 3) := by decide +kernel
theorem d_Signs_behind_36 : decode (mcd M_Signs_behind) 36 = .ok (.goto (-31), 3) := by decide +kernel
theorem d_Signs_behind_39 : decode (mcd M_Signs_behind) 39 = .ok (.iload 4, 2) := by decide +kernel
theorem d_Signs_behind_41 : decode (mcd M_Signs_behind) 41 = .ok (.ireturn, 1) := by decide +kernel
theorem d_Signs_couples_0 : decode (mcd M_Signs_couples) 0 = .ok (.iload_n 1, 1) := by decide +kernel
theorem d_Signs_couples_1 : decode (mcd M_Signs_couples) 1 = .ok (.invokestatic 79, 3) := by decide +kernel
theorem d_Signs_couples_4 : decode (mcd M_Signs_couples) 4 = .ok (.ifCond .ne 10, 3) := by decide +kernel
theorem d_Signs_couples_7 : decode (mcd M_Signs_couples) 7 = .ok (.iload_n 3, 1) := by decide +kernel
theorem d_Signs_couples_8 : decode (mcd M_Signs_couples) 8 = .ok (.invokestatic 79, 3) := by decide +kernel
theorem d_Signs_couples_11 : decode (mcd M_Signs_couples) 11 = .ok (.ifCond .eq 23, 3) := by decide +kernel
theorem d_Signs_couples_14 : decode (mcd M_Signs_couples) 14 = .ok (.iload_n 1, 1) := by decide +kernel
theorem d_Signs_couples_15 : decode (mcd M_Signs_couples) 15 = .ok (.invokestatic 79, 3) := by decide +kernel
theorem d_Signs_couples_18 : decode (mcd M_Signs_couples) 18 = .ok (.ifCond .eq 14, 3) := by decide +kernel
theorem d_Signs_couples_21 : decode (mcd M_Signs_couples) 21 = .ok (.iload_n 3, 1) := by decide +kernel
theorem d_Signs_couples_22 : decode (mcd M_Signs_couples) 22 = .ok (.invokestatic 79, 3) := by decide +kernel
theorem d_Signs_couples_25 : decode (mcd M_Signs_couples) 25 = .ok (.ifCond .eq 7, 3) := by decide +kernel
theorem d_Signs_couples_28 : decode (mcd M_Signs_couples) 28 = .ok (.iconst 1, 1) := by decide +kernel
theorem d_Signs_couples_29 : decode (mcd M_Signs_couples) 29 = .ok (.goto 4, 3) := by decide +kernel
theorem d_Signs_couples_32 : decode (mcd M_Signs_couples) 32 = .ok (.iconst 0, 1) := by decide +kernel
theorem d_Signs_couples_33 : decode (mcd M_Signs_couples) 33 = .ok (.ireturn, 1) := by decide +kernel
theorem d_Signs_couples_34 : decode (mcd M_Signs_couples) 34 = .ok (.iload_n 1, 1) := by decide +kernel
theorem d_Signs_couples_35 : decode (mcd M_Signs_couples) 35 = .ok (.iload_n 3, 1) := by decide +kernel
theorem d_Signs_couples_36 : decode (mcd M_Signs_couples) 36 = .ok (.if_icmp .eq 5, 3) := by decide +kernel
theorem d_Signs_couples_39 : decode (mcd M_Signs_couples) 39 = .ok (.iconst 0, 1) := by decide +kernel
theorem d_Signs_couples_40 : decode (mcd M_Signs_couples) 40 = .ok (.ireturn, 1) := by decide +kernel
theorem d_Signs_couples_41 : decode (mcd M_Signs_couples) 41 = .ok (.iload_n 2, 1) := by decide +kernel
theorem d_Signs_couples_42 : decode (mcd M_Signs_couples) 42 = .ok (.iconst 1, 1) := by decide +kernel
theorem d_Signs_couples_43 : decode (mcd M_Signs_couples) 43 = .ok (.iadd, 1) := by decide +kernel
theorem d_Signs_couples_44 : decode (mcd M_Signs_couples) 44 = .ok (.istore 5, 2) := by decide +kernel
theorem d_Signs_couples_46 : decode (mcd M_Signs_couples) 46 = .ok (.iload 4, 2) := by decide +kernel
theorem d_Signs_couples_48 : decode (mcd M_Signs_couples) 48 = .ok (.iconst 1, 1) := by decide +kernel
theorem d_Signs_couples_49 : decode (mcd M_Signs_couples) 49 = .ok (.iadd, 1) := by decide +kernel
theorem d_Signs_couples_50 : decode (mcd M_Signs_couples) 50 = .ok (.istore 6, 2) := by decide +kernel
theorem d_Signs_couples_52 : decode (mcd M_Signs_couples) 52 = .ok (.aload_n 0, 1) := by decide +kernel
theorem d_Signs_couples_53 : decode (mcd M_Signs_couples) 53 = .ok (.iload_n 1, 1) := by decide +kernel
theorem d_Signs_couples_54 : decode (mcd M_Signs_couples) 54 = .ok (.invokevirtual 46, 3) := by decide +kernel
theorem d_Signs_couples_57 : decode (mcd M_Signs_couples) 57 = .ok (.istore 7, 2) := by decide +kernel
theorem d_Signs_couples_59 : decode (mcd M_Signs_couples) 59 = .ok (.iload 7, 2) := by decide +kernel
theorem d_Signs_couples_61 : decode (mcd M_Signs_couples) 61 = .ok (.ifCond .le 40, 3) := by decide +kernel
theorem d_Signs_couples_64 : decode (mcd M_Signs_couples) 64 = .ok (.aload_n 0, 1) := by decide +kernel
theorem d_Signs_couples_65 : decode (mcd M_Signs_couples) 65 = .ok (.iload 5, 2) := by decide +kernel
theorem d_Signs_couples_67 : decode (mcd M_Signs_couples) 67 = .ok (.iload 6, 2) := by decide +kernel
theorem d_Signs_couples_69 : decode (mcd M_Signs_couples) 69 = .ok (.invokevirtual 75, 3) := by decide +kernel
theorem d_Signs_couples_72 : decode (mcd M_Signs_couples) 72 = .ok (.ifCond .ne 5, 3) := by decide +kernel
theorem d_Signs_couples_75 : decode (mcd M_Signs_couples) 75 = .ok (.iconst 0, 1) := by decide +kernel
theorem d_Signs_couples_76 : decode (mcd M_Signs_couples) 76 = .ok (.ireturn, 1) := by decide +kernel
theorem d_Signs_couples_77 : decode (mcd M_Signs_couples) 77 = .ok (.aload_n 0, 1) := by decide +kernel
theorem d_Signs_couples_78 : decode (mcd M_Signs_couples) 78 = .ok (.getfield 19, 3) := by decide +kernel
theorem d_Signs_couples_81 : decode (mcd M_Signs_couples) 81 = .ok (.iload 5, 2) := by decide +kernel
theorem d_Signs_couples_83 : decode (mcd M_Signs_couples) 83 = .ok (.iaload, 1) := by decide +kernel
theorem d_Signs_couples_84 : decode (mcd M_Signs_couples) 84 = .ok (.istore 5, 2) := by decide +kernel
theorem d_Signs_couples_86 : decode (mcd M_Signs_couples) 86 = .ok (.aload_n 0, 1) := by decide +kernel
theorem d_Signs_couples_87 : decode (mcd M_Signs_couples) 87 = .ok (.getfield 22, 3) := by decide +kernel
theorem d_Signs_couples_90 : decode (mcd M_Signs_couples) 90 = .ok (.iload 6, 2) := by decide +kernel
theorem d_Signs_couples_92 : decode (mcd M_Signs_couples) 92 = .ok (.iaload, 1) := by decide +kernel
theorem d_Signs_couples_93 : decode (mcd M_Signs_couples) 93 = .ok (.istore 6, 2) := by decide +kernel
theorem d_Signs_couples_95 : decode (mcd M_Signs_couples) 95 = .ok (.iinc 7 (-1), 3) := by decide +kernel
theorem d_Signs_couples_98 : decode (mcd M_Signs_couples) 98 = .ok (.goto (-39), 3) := by decide +kernel
theorem d_Signs_couples_101 : decode (mcd M_Signs_couples) 101 = .ok (.iconst 1, 1) := by decide +kernel
theorem d_Signs_couples_102 : decode (mcd M_Signs_couples) 102 = .ok (.ireturn, 1) := by decide +kernel
theorem d_Signs_embeddedInParts_0 : decode (mcd M_Signs_embeddedInParts) 0 = .ok (.lconst 0, 1) := by decide +kernel
theorem d_Signs_embeddedInParts_1 : decode (mcd M_Signs_embeddedInParts) 1 = .ok (.lstore_n 3, 1) := by decide +kernel
theorem d_Signs_embeddedInParts_2 : decode (mcd M_Signs_embeddedInParts) 2 = .ok (.iload_n 2, 1) := by decide +kernel
theorem d_Signs_embeddedInParts_3 : decode (mcd M_Signs_embeddedInParts) 3 = .ok (.iconst 1, 1) := by decide +kernel
theorem d_Signs_embeddedInParts_4 : decode (mcd M_Signs_embeddedInParts) 4 = .ok (.iadd, 1) := by decide +kernel
theorem d_Signs_embeddedInParts_5 : decode (mcd M_Signs_embeddedInParts) 5 = .ok (.istore 5, 2) := by decide +kernel
theorem d_Signs_embeddedInParts_7 : decode (mcd M_Signs_embeddedInParts) 7 = .ok (.aload_n 0, 1) := by decide +kernel
theorem d_Signs_embeddedInParts_8 : decode (mcd M_Signs_embeddedInParts) 8 = .ok (.iload_n 1, 1) := by decide +kernel
theorem d_Signs_embeddedInParts_9 : decode (mcd M_Signs_embeddedInParts) 9 = .ok (.invokevirtual 46, 3) := by decide +kernel
theorem d_Signs_embeddedInParts_12 : decode (mcd M_Signs_embeddedInParts) 12 = .ok (.istore 6, 2) := by decide +kernel
theorem d_Signs_embeddedInParts_14 : decode (mcd M_Signs_embeddedInParts) 14 = .ok (.iload 6, 2) := by decide +kernel
theorem d_Signs_embeddedInParts_16 : decode (mcd M_Signs_embeddedInParts) 16 = .ok (.ifCond .le 35, 3) := by decide +kernel
theorem d_Signs_embeddedInParts_19 : decode (mcd M_Signs_embeddedInParts) 19 = .ok (.iload 5, 2) := by decide +kernel
theorem d_Signs_embeddedInParts_21 : decode (mcd M_Signs_embeddedInParts) 21 = .ok (.bipush 40, 2) := by decide +kernel
theorem d_Signs_embeddedInParts_23 : decode (mcd M_Signs_embeddedInParts) 23 = .ok (.if_icmp .ge 28, 3) := by decide +kernel
theorem d_Signs_embeddedInParts_26 : decode (mcd M_Signs_embeddedInParts) 26 = .ok (.lload_n 3, 1) := by decide +kernel
theorem d_Signs_embeddedInParts_27 : decode (mcd M_Signs_embeddedInParts) 27 = .ok (.aload_n 0, 1) := by decide +kernel
theorem d_Signs_embeddedInParts_28 : decode (mcd M_Signs_embeddedInParts) 28 = .ok (.getfield 25, 3) := by decide +kernel
theorem d_Signs_embeddedInParts_31 : decode (mcd M_Signs_embeddedInParts) 31 = .ok (.iload 5, 2) := by decide +kernel
theorem d_Signs_embeddedInParts_33 : decode (mcd M_Signs_embeddedInParts) 33 = .ok (.laload, 1) := by decide +kernel
theorem d_Signs_embeddedInParts_34 : decode (mcd M_Signs_embeddedInParts) 34 = .ok (.lor, 1) := by decide +kernel
theorem d_Signs_embeddedInParts_35 : decode (mcd M_Signs_embeddedInParts) 35 = .ok (.lstore_n 3, 1) := by decide +kernel
theorem d_Signs_embeddedInParts_36 : decode (mcd M_Signs_embeddedInParts) 36 = .ok (.aload_n 0, 1) := by decide +kernel
theorem d_Signs_embeddedInParts_37 : decode (mcd M_Signs_embeddedInParts) 37 = .ok (.getfield 22, 3) := by decide +kernel
theorem d_Signs_embeddedInParts_40 : decode (mcd M_Signs_embeddedInParts) 40 = .ok (.iload 5, 2) := by decide +kernel
theorem d_Signs_embeddedInParts_42 : decode (mcd M_Signs_embeddedInParts) 42 = .ok (.iaload, 1) := by decide +kernel
theorem d_Signs_embeddedInParts_43 : decode (mcd M_Signs_embeddedInParts) 43 = .ok (.istore 5, 2) := by decide +kernel
theorem d_Signs_embeddedInParts_45 : decode (mcd M_Signs_embeddedInParts) 45 = .ok (.iinc 6 (-1), 3) := by decide +kernel
theorem d_Signs_embeddedInParts_48 : decode (mcd M_Signs_embeddedInParts) 48 = .ok (.goto (-34), 3) := by decide +kernel
theorem d_Signs_embeddedInParts_51 : decode (mcd M_Signs_embeddedInParts) 51 = .ok (.lload_n 3, 1) := by decide +kernel
theorem d_Signs_embeddedInParts_52 : decode (mcd M_Signs_embeddedInParts) 52 = .ok (.lreturn, 1) := by decide +kernel
theorem d_Signs_findEnds_0 : decode (mcd M_Signs_findEnds) 0 = .ok (.aload_n 1, 1) := by decide +kernel
theorem d_Signs_findEnds_1 : decode (mcd M_Signs_findEnds) 1 = .ok (.invokevirtual 36, 3) := by decide +kernel
theorem d_Signs_findEnds_4 : decode (mcd M_Signs_findEnds) 4 = .ok (.aload_n 2, 1) := by decide +kernel
theorem d_Signs_findEnds_5 : decode (mcd M_Signs_findEnds) 5 = .ok (.arraylength, 1) := by decide +kernel
theorem d_Signs_findEnds_6 : decode (mcd M_Signs_findEnds) 6 = .ok (.invokestatic 82, 3) := by decide +kernel
theorem d_Signs_findEnds_9 : decode (mcd M_Signs_findEnds) 9 = .ok (.istore_n 3, 1) := by decide +kernel
theorem d_Signs_findEnds_10 : decode (mcd M_Signs_findEnds) 10 = .ok (.iload_n 3, 1) := by decide +kernel
theorem d_Signs_findEnds_11 : decode (mcd M_Signs_findEnds) 11 = .ok (.iconst 1, 1) := by decide +kernel
theorem d_Signs_findEnds_12 : decode (mcd M_Signs_findEnds) 12 = .ok (.isub, 1) := by decide +kernel
theorem d_Signs_findEnds_13 : decode (mcd M_Signs_findEnds) 13 = .ok (.istore 4, 2) := by decide +kernel
theorem d_Signs_findEnds_15 : decode (mcd M_Signs_findEnds) 15 = .ok (.iload 4, 2) := by decide +kernel
theorem d_Signs_findEnds_17 : decode (mcd M_Signs_findEnds) 17 = .ok (.ifCond .lt 56, 3) := by decide +kernel
theorem d_Signs_findEnds_20 : decode (mcd M_Signs_findEnds) 20 = .ok (.iload 4, 2) := by decide +kernel
theorem d_Signs_findEnds_22 : decode (mcd M_Signs_findEnds) 22 = .ok (.iconst 1, 1) := by decide +kernel
theorem d_Signs_findEnds_23 : decode (mcd M_Signs_findEnds) 23 = .ok (.iadd, 1) := by decide +kernel
theorem d_Signs_findEnds_24 : decode (mcd M_Signs_findEnds) 24 = .ok (.istore 5, 2) := by decide +kernel
theorem d_Signs_findEnds_26 : decode (mcd M_Signs_findEnds) 26 = .ok (.aload_n 0, 1) := by decide +kernel
theorem d_Signs_findEnds_27 : decode (mcd M_Signs_findEnds) 27 = .ok (.aload_n 1, 1) := by decide +kernel
theorem d_Signs_findEnds_28 : decode (mcd M_Signs_findEnds) 28 = .ok (.iload 4, 2) := by decide +kernel
theorem d_Signs_findEnds_30 : decode (mcd M_Signs_findEnds) 30 = .ok (.invokevirtual 42, 3) := by decide +kernel
theorem d_Signs_findEnds_33 : decode (mcd M_Signs_findEnds) 33 = .ok (.invokevirtual 46, 3) := by decide +kernel
theorem d_Signs_findEnds_36 : decode (mcd M_Signs_findEnds) 36 = .ok (.istore 6, 2) := by decide +kernel
theorem d_Signs_findEnds_38 : decode (mcd M_Signs_findEnds) 38 = .ok (.iload 6, 2) := by decide +kernel
theorem d_Signs_findEnds_40 : decode (mcd M_Signs_findEnds) 40 = .ok (.ifCond .le 21, 3) := by decide +kernel
theorem d_Signs_findEnds_43 : decode (mcd M_Signs_findEnds) 43 = .ok (.iload 5, 2) := by decide +kernel
theorem d_Signs_findEnds_45 : decode (mcd M_Signs_findEnds) 45 = .ok (.iload_n 3, 1) := by decide +kernel
theorem d_Signs_findEnds_46 : decode (mcd M_Signs_findEnds) 46 = .ok (.if_icmp .ge 15, 3) := by decide +kernel
theorem d_Signs_findEnds_49 : decode (mcd M_Signs_findEnds) 49 = .ok (.aload_n 2, 1) := by decide +kernel
theorem d_Signs_findEnds_50 : decode (mcd M_Signs_findEnds) 50 = .ok (.iload 5, 2) := by decide +kernel
theorem d_Signs_findEnds_52 : decode (mcd M_Signs_findEnds) 52 = .ok (.iaload, 1) := by decide +kernel
theorem d_Signs_findEnds_53 : decode (mcd M_Signs_findEnds) 53 = .ok (.istore 5, 2) := by decide +kernel
theorem d_Signs_findEnds_55 : decode (mcd M_Signs_findEnds) 55 = .ok (.iinc 6 (-1), 3) := by decide +kernel
theorem d_Signs_findEnds_58 : decode (mcd M_Signs_findEnds) 58 = .ok (.goto (-20), 3) := by decide +kernel
theorem d_Signs_findEnds_61 : decode (mcd M_Signs_findEnds) 61 = .ok (.aload_n 2, 1) := by decide +kernel
theorem d_Signs_findEnds_62 : decode (mcd M_Signs_findEnds) 62 = .ok (.iload 4, 2) := by decide +kernel
theorem d_Signs_findEnds_64 : decode (mcd M_Signs_findEnds) 64 = .ok (.iload 5, 2) := by decide +kernel
theorem d_Signs_findEnds_66 : decode (mcd M_Signs_findEnds) 66 = .ok (.iastore, 1) := by decide +kernel
theorem d_Signs_findEnds_67 : decode (mcd M_Signs_findEnds) 67 = .ok (.iinc 4 (-1), 3) := by decide +kernel
theorem d_Signs_findEnds_70 : decode (mcd M_Signs_findEnds) 70 = .ok (.goto (-55), 3) := by decide +kernel
theorem d_Signs_findEnds_73 : decode (mcd M_Signs_findEnds) 73 = .ok (.return_, 1) := by decide +kernel
theorem d_Signs_isCased_0 : decode (mcd M_Signs_isCased) 0 = .ok (.iload_n 1, 1) := by decide +kernel
theorem d_Signs_isCased_1 : decode (mcd M_Signs_isCased) 1 = .ok (.ifCond .lt 23, 3) := by decide +kernel
theorem d_Signs_isCased_4 : decode (mcd M_Signs_isCased) 4 = .ok (.iload_n 1, 1) := by decide +kernel
theorem d_Signs_isCased_5 : decode (mcd M_Signs_isCased) 5 = .ok (.sipush 401, 3) := by decide +kernel
theorem d_Signs_isCased_8 : decode (mcd M_Signs_isCased) 8 = .ok (.if_icmp .ge 16, 3) := by decide +kernel
theorem d_Signs_isCased_11 : decode (mcd M_Signs_isCased) 11 = .ok (.aload_n 0, 1) := by decide +kernel
theorem d_Signs_isCased_12 : decode (mcd M_Signs_isCased) 12 = .ok (.getfield 15, 3) := by decide +kernel
theorem d_Signs_isCased_15 : decode (mcd M_Signs_isCased) 15 = .ok (.iload_n 1, 1) := by decide +kernel
theorem d_Signs_isCased_16 : decode (mcd M_Signs_isCased) 16 = .ok (.baload, 1) := by decide +kernel
theorem d_Signs_isCased_17 : decode (mcd M_Signs_isCased) 17 = .ok (.ifCond .eq 7, 3) := by decide +kernel
theorem d_Signs_isCased_20 : decode (mcd M_Signs_isCased) 20 = .ok (.iconst 1, 1) := by decide +kernel
theorem d_Signs_isCased_21 : decode (mcd M_Signs_isCased) 21 = .ok (.goto 4, 3) := by decide +kernel
theorem d_Signs_isCased_24 : decode (mcd M_Signs_isCased) 24 = .ok (.iconst 0, 1) := by decide +kernel
theorem d_Signs_isCased_25 : decode (mcd M_Signs_isCased) 25 = .ok (.ireturn, 1) := by decide +kernel
theorem d_Signs_isEmbedded_0 : decode (mcd M_Signs_isEmbedded) 0 = .ok (.aload_n 1, 1) := by decide +kernel
theorem d_Signs_isEmbedded_1 : decode (mcd M_Signs_isEmbedded) 1 = .ok (.invokevirtual 59, 3) := by decide +kernel
theorem d_Signs_isEmbedded_4 : decode (mcd M_Signs_isEmbedded) 4 = .ok (.ifCond .ne 23, 3) := by decide +kernel
theorem d_Signs_isEmbedded_7 : decode (mcd M_Signs_isEmbedded) 7 = .ok (.aload_n 1, 1) := by decide +kernel
theorem d_Signs_isEmbedded_8 : decode (mcd M_Signs_isEmbedded) 8 = .ok (.invokevirtual 36, 3) := by decide +kernel
theorem d_Signs_isEmbedded_11 : decode (mcd M_Signs_isEmbedded) 11 = .ok (.aload_n 2, 1) := by decide +kernel
theorem d_Signs_isEmbedded_12 : decode (mcd M_Signs_isEmbedded) 12 = .ok (.invokevirtual 36, 3) := by decide +kernel
theorem d_Signs_isEmbedded_15 : decode (mcd M_Signs_isEmbedded) 15 = .ok (.if_icmp .gt 12, 3) := by decide +kernel
theorem d_Signs_isEmbedded_18 : decode (mcd M_Signs_isEmbedded) 18 = .ok (.aload_n 2, 1) := by decide +kernel
theorem d_Signs_isEmbedded_19 : decode (mcd M_Signs_isEmbedded) 19 = .ok (.invokevirtual 36, 3) := by decide +kernel
theorem d_Signs_isEmbedded_22 : decode (mcd M_Signs_isEmbedded) 22 = .ok (.bipush 40, 2) := by decide +kernel
theorem d_Signs_isEmbedded_24 : decode (mcd M_Signs_isEmbedded) 24 = .ok (.if_icmp .le 5, 3) := by decide +kernel
theorem d_Signs_isEmbedded_27 : decode (mcd M_Signs_isEmbedded) 27 = .ok (.iconst 0, 1) := by decide +kernel
theorem d_Signs_isEmbedded_28 : decode (mcd M_Signs_isEmbedded) 28 = .ok (.ireturn, 1) := by decide +kernel
theorem d_Signs_isEmbedded_29 : decode (mcd M_Signs_isEmbedded) 29 = .ok (.aload_n 0, 1) := by decide +kernel
theorem d_Signs_isEmbedded_30 : decode (mcd M_Signs_isEmbedded) 30 = .ok (.aload_n 1, 1) := by decide +kernel
theorem d_Signs_isEmbedded_31 : decode (mcd M_Signs_isEmbedded) 31 = .ok (.aload_n 0, 1) := by decide +kernel
theorem d_Signs_isEmbedded_32 : decode (mcd M_Signs_isEmbedded) 32 = .ok (.getfield 19, 3) := by decide +kernel
theorem d_Signs_isEmbedded_35 : decode (mcd M_Signs_isEmbedded) 35 = .ok (.invokevirtual 63, 3) := by decide +kernel
theorem d_Signs_isEmbedded_38 : decode (mcd M_Signs_isEmbedded) 38 = .ok (.aload_n 0, 1) := by decide +kernel
theorem d_Signs_isEmbedded_39 : decode (mcd M_Signs_isEmbedded) 39 = .ok (.aload_n 2, 1) := by decide +kernel
theorem d_Signs_isEmbedded_40 : decode (mcd M_Signs_isEmbedded) 40 = .ok (.aload_n 0, 1) := by decide +kernel
theorem d_Signs_isEmbedded_41 : decode (mcd M_Signs_isEmbedded) 41 = .ok (.getfield 22, 3) := by decide +kernel
theorem d_Signs_isEmbedded_44 : decode (mcd M_Signs_isEmbedded) 44 = .ok (.invokevirtual 63, 3) := by decide +kernel
theorem d_Signs_isEmbedded_47 : decode (mcd M_Signs_isEmbedded) 47 = .ok (.aload_n 2, 1) := by decide +kernel
theorem d_Signs_isEmbedded_48 : decode (mcd M_Signs_isEmbedded) 48 = .ok (.invokevirtual 36, 3) := by decide +kernel
theorem d_Signs_isEmbedded_51 : decode (mcd M_Signs_isEmbedded) 51 = .ok (.iconst 1, 1) := by decide +kernel
theorem d_Signs_isEmbedded_52 : decode (mcd M_Signs_isEmbedded) 52 = .ok (.isub, 1) := by decide +kernel
theorem d_Signs_isEmbedded_53 : decode (mcd M_Signs_isEmbedded) 53 = .ok (.istore_n 3, 1) := by decide +kernel
theorem d_Signs_isEmbedded_54 : decode (mcd M_Signs_isEmbedded) 54 = .ok (.iload_n 3, 1) := by decide +kernel
theorem d_Signs_isEmbedded_55 : decode (mcd M_Signs_isEmbedded) 55 = .ok (.ifCond .lt 77, 3) := by decide +kernel
theorem d_Signs_isEmbedded_58 : decode (mcd M_Signs_isEmbedded) 58 = .ok (.aload_n 0, 1) := by decide +kernel
theorem d_Signs_isEmbedded_59 : decode (mcd M_Signs_isEmbedded) 59 = .ok (.aload_n 2, 1) := by decide +kernel
theorem d_Signs_isEmbedded_60 : decode (mcd M_Signs_isEmbedded) 60 = .ok (.iload_n 3, 1) := by decide +kernel
theorem d_Signs_isEmbedded_61 : decode (mcd M_Signs_isEmbedded) 61 = .ok (.invokevirtual 42, 3) := by decide +kernel
theorem d_Signs_isEmbedded_64 : decode (mcd M_Signs_isEmbedded) 64 = .ok (.iload_n 3, 1) := by decide +kernel
theorem d_Signs_isEmbedded_65 : decode (mcd M_Signs_isEmbedded) 65 = .ok (.invokevirtual 67, 3) := by decide +kernel
theorem d_Signs_isEmbedded_68 : decode (mcd M_Signs_isEmbedded) 68 = .ok (.lstore 4, 2) := by decide +kernel
theorem d_Signs_isEmbedded_70 : decode (mcd M_Signs_isEmbedded) 70 = .ok (.iconst 0, 1) := by decide +kernel
theorem d_Signs_isEmbedded_71 : decode (mcd M_Signs_isEmbedded) 71 = .ok (.istore 6, 2) := by decide +kernel
theorem d_Signs_isEmbedded_73 : decode (mcd M_Signs_isEmbedded) 73 = .ok (.iload 6, 2) := by decide +kernel
theorem d_Signs_isEmbedded_75 : decode (mcd M_Signs_isEmbedded) 75 = .ok (.aload_n 1, 1) := by decide +kernel
theorem d_Signs_isEmbedded_76 : decode (mcd M_Signs_isEmbedded) 76 = .ok (.invokevirtual 36, 3) := by decide +kernel
theorem d_Signs_isEmbedded_79 : decode (mcd M_Signs_isEmbedded) 79 = .ok (.if_icmp .ge 39, 3) := by decide +kernel
theorem d_Signs_isEmbedded_82 : decode (mcd M_Signs_isEmbedded) 82 = .ok (.aload_n 0, 1) := by decide +kernel
theorem d_Signs_isEmbedded_83 : decode (mcd M_Signs_isEmbedded) 83 = .ok (.aload_n 1, 1) := by decide +kernel
theorem d_Signs_isEmbedded_84 : decode (mcd M_Signs_isEmbedded) 84 = .ok (.iload 6, 2) := by decide +kernel
theorem d_Signs_isEmbedded_86 : decode (mcd M_Signs_isEmbedded) 86 = .ok (.invokevirtual 42, 3) := by decide +kernel
theorem d_Signs_isEmbedded_89 : decode (mcd M_Signs_isEmbedded) 89 = .ok (.iload 6, 2) := by decide +kernel
theorem d_Signs_isEmbedded_91 : decode (mcd M_Signs_isEmbedded) 91 = .ok (.aload_n 2, 1) := by decide +kernel
theorem d_Signs_isEmbedded_92 : decode (mcd M_Signs_isEmbedded) 92 = .ok (.iload_n 3, 1) := by decide +kernel
theorem d_Signs_isEmbedded_93 : decode (mcd M_Signs_isEmbedded) 93 = .ok (.invokevirtual 42, 3) := by decide +kernel
theorem d_Signs_isEmbedded_96 : decode (mcd M_Signs_isEmbedded) 96 = .ok (.iload_n 3, 1) := by decide +kernel
theorem d_Signs_isEmbedded_97 : decode (mcd M_Signs_isEmbedded) 97 = .ok (.invokevirtual 71, 3) := by decide +kernel
theorem d_Signs_isEmbedded_100 : decode (mcd M_Signs_isEmbedded) 100 = .ok (.ifCond .eq 12, 3) := by decide +kernel
theorem d_Signs_isEmbedded_103 : decode (mcd M_Signs_isEmbedded) 103 = .ok (.lload 4, 2) := by decide +kernel
theorem d_Signs_isEmbedded_105 : decode (mcd M_Signs_isEmbedded) 105 = .ok (.lconst 1, 1) := by decide +kernel
theorem d_Signs_isEmbedded_106 : decode (mcd M_Signs_isEmbedded) 106 = .ok (.iload 6, 2) := by decide +kernel
theorem d_Signs_isEmbedded_108 : decode (mcd M_Signs_isEmbedded) 108 = .ok (.lshl, 1) := by decide +kernel
theorem d_Signs_isEmbedded_109 : decode (mcd M_Signs_isEmbedded) 109 = .ok (.lor, 1) := by decide +kernel
theorem d_Signs_isEmbedded_110 : decode (mcd M_Signs_isEmbedded) 110 = .ok (.lstore 4, 2) := by decide +kernel
theorem d_Signs_isEmbedded_112 : decode (mcd M_Signs_isEmbedded) 112 = .ok (.iinc 6 1, 3) := by decide +kernel
theorem d_Signs_isEmbedded_115 : decode (mcd M_Signs_isEmbedded) 115 = .ok (.goto (-42), 3) := by decide +kernel
theorem d_Signs_isEmbedded_118 : decode (mcd M_Signs_isEmbedded) 118 = .ok (.aload_n 0, 1) := by decide +kernel
theorem d_Signs_isEmbedded_119 : decode (mcd M_Signs_isEmbedded) 119 = .ok (.getfield 25, 3) := by decide +kernel
theorem d_Signs_isEmbedded_122 : decode (mcd M_Signs_isEmbedded) 122 = .ok (.iload_n 3, 1) := by decide +kernel
theorem d_Signs_isEmbedded_123 : decode (mcd M_Signs_isEmbedded) 123 = .ok (.lload 4, 2) := by decide +kernel
theorem d_Signs_isEmbedded_125 : decode (mcd M_Signs_isEmbedded) 125 = .ok (.lastore, 1) := by decide +kernel
theorem d_Signs_isEmbedded_126 : decode (mcd M_Signs_isEmbedded) 126 = .ok (.iinc 3 (-1), 3) := by decide +kernel
theorem d_Signs_isEmbedded_129 : decode (mcd M_Signs_isEmbedded) 129 = .ok (.goto (-75), 3) := by decide +kernel
theorem d_Signs_isEmbedded_132 : decode (mcd M_Signs_isEmbedded) 132 = .ok (.aload_n 0, 1) := by decide +kernel
theorem d_Signs_isEmbedded_133 : decode (mcd M_Signs_isEmbedded) 133 = .ok (.iconst 0, 1) := by decide +kernel
theorem d_Signs_isEmbedded_134 : decode (mcd M_Signs_isEmbedded) 134 = .ok (.iconst 0, 1) := by decide +kernel
theorem d_Signs_isEmbedded_135 : decode (mcd M_Signs_isEmbedded) 135 = .ok (.invokevirtual 75, 3) := by decide +kernel
theorem d_Signs_isEmbedded_138 : decode (mcd M_Signs_isEmbedded) 138 = .ok (.ireturn, 1) := by decide +kernel
theorem d_Signs_isMarked_0 : decode (mcd M_Signs_isMarked) 0 = .ok (.iload_n 1, 1) := by decide +kernel
theorem d_Signs_isMarked_1 : decode (mcd M_Signs_isMarked) 1 = .ok (.ifCond .lt 38, 3) := by decide +kernel
theorem d_Signs_isMarked_4 : decode (mcd M_Signs_isMarked) 4 = .ok (.iload_n 1, 1) := by decide +kernel
theorem d_Signs_isMarked_5 : decode (mcd M_Signs_isMarked) 5 = .ok (.bipush 40, 2) := by decide +kernel
theorem d_Signs_isMarked_7 : decode (mcd M_Signs_isMarked) 7 = .ok (.if_icmp .ge 32, 3) := by decide +kernel
theorem d_Signs_isMarked_10 : decode (mcd M_Signs_isMarked) 10 = .ok (.iload_n 2, 1) := by decide +kernel
theorem d_Signs_isMarked_11 : decode (mcd M_Signs_isMarked) 11 = .ok (.ifCond .lt 28, 3) := by decide +kernel
theorem d_Signs_isMarked_14 : decode (mcd M_Signs_isMarked) 14 = .ok (.iload_n 2, 1) := by decide +kernel
theorem d_Signs_isMarked_15 : decode (mcd M_Signs_isMarked) 15 = .ok (.bipush 40, 2) := by decide +kernel
theorem d_Signs_isMarked_17 : decode (mcd M_Signs_isMarked) 17 = .ok (.if_icmp .ge 22, 3) := by decide +kernel
theorem d_Signs_isMarked_20 : decode (mcd M_Signs_isMarked) 20 = .ok (.aload_n 0, 1) := by decide +kernel
theorem d_Signs_isMarked_21 : decode (mcd M_Signs_isMarked) 21 = .ok (.getfield 25, 3) := by decide +kernel
theorem d_Signs_isMarked_24 : decode (mcd M_Signs_isMarked) 24 = .ok (.iload_n 2, 1) := by decide +kernel
theorem d_Signs_isMarked_25 : decode (mcd M_Signs_isMarked) 25 = .ok (.laload, 1) := by decide +kernel
theorem d_Signs_isMarked_26 : decode (mcd M_Signs_isMarked) 26 = .ok (.iload_n 1, 1) := by decide +kernel
theorem d_Signs_isMarked_27 : decode (mcd M_Signs_isMarked) 27 = .ok (.lushr, 1) := by decide +kernel
theorem d_Signs_isMarked_28 : decode (mcd M_Signs_isMarked) 28 = .ok (.lconst 1, 1) := by decide +kernel
theorem d_Signs_isMarked_29 : decode (mcd M_Signs_isMarked) 29 = .ok (.land, 1) := by decide +kernel
theorem d_Signs_isMarked_30 : decode (mcd M_Signs_isMarked) 30 = .ok (.lconst 0, 1) := by decide +kernel
theorem d_Signs_isMarked_31 : decode (mcd M_Signs_isMarked) 31 = .ok (.lcmp, 1) := by decide +kernel
theorem d_Signs_isMarked_32 : decode (mcd M_Signs_isMarked) 32 = .ok (.ifCond .eq 7, 3) := by decide +kernel
theorem d_Signs_isMarked_35 : decode (mcd M_Signs_isMarked) 35 = .ok (.iconst 1, 1) := by decide +kernel
theorem d_Signs_isMarked_36 : decode (mcd M_Signs_isMarked) 36 = .ok (.goto 4, 3) := by decide +kernel
theorem d_Signs_isMarked_39 : decode (mcd M_Signs_isMarked) 39 = .ok (.iconst 0, 1) := by decide +kernel
theorem d_Signs_isMarked_40 : decode (mcd M_Signs_isMarked) 40 = .ok (.ireturn, 1) := by decide +kernel
theorem d_Signs_isTerm_0 : decode (mcd M_Signs_isTerm) 0 = .ok (.iconst 1, 1) := by decide +kernel
theorem d_Signs_isTerm_1 : decode (mcd M_Signs_isTerm) 1 = .ok (.istore_n 2, 1) := by decide +kernel
theorem d_Signs_isTerm_2 : decode (mcd M_Signs_isTerm) 2 = .ok (.iconst 0, 1) := by decide +kernel
theorem d_Signs_isTerm_3 : decode (mcd M_Signs_isTerm) 3 = .ok (.istore_n 3, 1) := by decide +kernel
theorem d_Signs_isTerm_4 : decode (mcd M_Signs_isTerm) 4 = .ok (.iload_n 3, 1) := by decide +kernel
theorem d_Signs_isTerm_5 : decode (mcd M_Signs_isTerm) 5 = .ok (.aload_n 1, 1) := by decide +kernel
theorem d_Signs_isTerm_6 : decode (mcd M_Signs_isTerm) 6 = .ok (.invokevirtual 36, 3) := by decide +kernel
theorem d_Signs_isTerm_9 : decode (mcd M_Signs_isTerm) 9 = .ok (.if_icmp .ge 49, 3) := by decide +kernel
theorem d_Signs_isTerm_12 : decode (mcd M_Signs_isTerm) 12 = .ok (.aload_n 0, 1) := by decide +kernel
theorem d_Signs_isTerm_13 : decode (mcd M_Signs_isTerm) 13 = .ok (.aload_n 1, 1) := by decide +kernel
theorem d_Signs_isTerm_14 : decode (mcd M_Signs_isTerm) 14 = .ok (.iload_n 3, 1) := by decide +kernel
theorem d_Signs_isTerm_15 : decode (mcd M_Signs_isTerm) 15 = .ok (.invokevirtual 42, 3) := by decide +kernel
theorem d_Signs_isTerm_18 : decode (mcd M_Signs_isTerm) 18 = .ok (.invokevirtual 46, 3) := by decide +kernel
theorem d_Signs_isTerm_21 : decode (mcd M_Signs_isTerm) 21 = .ok (.istore 4, 2) := by decide +kernel
theorem d_Signs_isTerm_23 : decode (mcd M_Signs_isTerm) 23 = .ok (.iload_n 2, 1) := by decide +kernel
theorem d_Signs_isTerm_24 : decode (mcd M_Signs_isTerm) 24 = .ok (.ifCond .eq 19, 3) := by decide +kernel
theorem d_Signs_isTerm_27 : decode (mcd M_Signs_isTerm) 27 = .ok (.aload_n 1, 1) := by decide +kernel
theorem d_Signs_isTerm_28 : decode (mcd M_Signs_isTerm) 28 = .ok (.iload_n 3, 1) := by decide +kernel
theorem d_Signs_isTerm_29 : decode (mcd M_Signs_isTerm) 29 = .ok (.invokevirtual 42, 3) := by decide +kernel
theorem d_Signs_isTerm_32 : decode (mcd M_Signs_isTerm) 32 = .ok (.invokestatic 32, 3) := by decide +kernel
theorem d_Signs_isTerm_35 : decode (mcd M_Signs_isTerm) 35 = .ok (.ifCond .eq 10, 3) := by decide +kernel
theorem d_Signs_isTerm_38 : decode (mcd M_Signs_isTerm) 38 = .ok (.iload 4, 2) := by decide +kernel
theorem d_Signs_isTerm_40 : decode (mcd M_Signs_isTerm) 40 = .ok (.ifCond .ne 5, 3) := by decide +kernel
theorem d_Signs_isTerm_43 : decode (mcd M_Signs_isTerm) 43 = .ok (.iconst 0, 1) := by decide +kernel
theorem d_Signs_isTerm_44 : decode (mcd M_Signs_isTerm) 44 = .ok (.ireturn, 1) := by decide +kernel
theorem d_Signs_isTerm_45 : decode (mcd M_Signs_isTerm) 45 = .ok (.iload_n 2, 1) := by decide +kernel
theorem d_Signs_isTerm_46 : decode (mcd M_Signs_isTerm) 46 = .ok (.iload 4, 2) := by decide +kernel
theorem d_Signs_isTerm_48 : decode (mcd M_Signs_isTerm) 48 = .ok (.iconst 1, 1) := by decide +kernel
theorem d_Signs_isTerm_49 : decode (mcd M_Signs_isTerm) 49 = .ok (.isub, 1) := by decide +kernel
theorem d_Signs_isTerm_50 : decode (mcd M_Signs_isTerm) 50 = .ok (.iadd, 1) := by decide +kernel
theorem d_Signs_isTerm_51 : decode (mcd M_Signs_isTerm) 51 = .ok (.istore_n 2, 1) := by decide +kernel
theorem d_Signs_isTerm_52 : decode (mcd M_Signs_isTerm) 52 = .ok (.iinc 3 1, 3) := by decide +kernel
theorem d_Signs_isTerm_55 : decode (mcd M_Signs_isTerm) 55 = .ok (.goto (-51), 3) := by decide +kernel
theorem d_Signs_isTerm_58 : decode (mcd M_Signs_isTerm) 58 = .ok (.iload_n 2, 1) := by decide +kernel
theorem d_Signs_isTerm_59 : decode (mcd M_Signs_isTerm) 59 = .ok (.ifCond .ne 7, 3) := by decide +kernel
theorem d_Signs_isTerm_62 : decode (mcd M_Signs_isTerm) 62 = .ok (.iconst 1, 1) := by decide +kernel
theorem d_Signs_isTerm_63 : decode (mcd M_Signs_isTerm) 63 = .ok (.goto 4, 3) := by decide +kernel
theorem d_Signs_isTerm_66 : decode (mcd M_Signs_isTerm) 66 = .ok (.iconst 0, 1) := by decide +kernel
theorem d_Signs_isTerm_67 : decode (mcd M_Signs_isTerm) 67 = .ok (.ireturn, 1) := by decide +kernel
theorem d_Signs_isValue_0 : decode (mcd M_Signs_isValue) 0 = .ok (.iconst 0, 1) := by decide +kernel
theorem d_Signs_isValue_1 : decode (mcd M_Signs_isValue) 1 = .ok (.istore_n 2, 1) := by decide +kernel
theorem d_Signs_isValue_2 : decode (mcd M_Signs_isValue) 2 = .ok (.iload_n 2, 1) := by decide +kernel
theorem d_Signs_isValue_3 : decode (mcd M_Signs_isValue) 3 = .ok (.aload_n 1, 1) := by decide +kernel
theorem d_Signs_isValue_4 : decode (mcd M_Signs_isValue) 4 = .ok (.invokevirtual 36, 3) := by decide +kernel
theorem d_Signs_isValue_7 : decode (mcd M_Signs_isValue) 7 = .ok (.if_icmp .ge 22, 3) := by decide +kernel
theorem d_Signs_isValue_10 : decode (mcd M_Signs_isValue) 10 = .ok (.aload_n 1, 1) := by decide +kernel
theorem d_Signs_isValue_11 : decode (mcd M_Signs_isValue) 11 = .ok (.iload_n 2, 1) := by decide +kernel
theorem d_Signs_isValue_12 : decode (mcd M_Signs_isValue) 12 = .ok (.invokevirtual 42, 3) := by decide +kernel
theorem d_Signs_isValue_15 : decode (mcd M_Signs_isValue) 15 = .ok (.invokestatic 49, 3) := by decide +kernel
theorem d_Signs_isValue_18 : decode (mcd M_Signs_isValue) 18 = .ok (.ifCond .ne 5, 3) := by decide +kernel
theorem d_Signs_isValue_21 : decode (mcd M_Signs_isValue) 21 = .ok (.iconst 0, 1) := by decide +kernel
theorem d_Signs_isValue_22 : decode (mcd M_Signs_isValue) 22 = .ok (.ireturn, 1) := by decide +kernel
theorem d_Signs_isValue_23 : decode (mcd M_Signs_isValue) 23 = .ok (.iinc 2 1, 3) := by decide +kernel
theorem d_Signs_isValue_26 : decode (mcd M_Signs_isValue) 26 = .ok (.goto (-24), 3) := by decide +kernel
theorem d_Signs_isValue_29 : decode (mcd M_Signs_isValue) 29 = .ok (.aload_n 0, 1) := by decide +kernel
theorem d_Signs_isValue_30 : decode (mcd M_Signs_isValue) 30 = .ok (.aload_n 1, 1) := by decide +kernel
theorem d_Signs_isValue_31 : decode (mcd M_Signs_isValue) 31 = .ok (.invokevirtual 52, 3) := by decide +kernel
theorem d_Signs_isValue_34 : decode (mcd M_Signs_isValue) 34 = .ok (.ireturn, 1) := by decide +kernel
theorem d_Signs_nextCall_0 : decode (mcd M_Signs_nextCall) 0 = .ok (.iconst 0, 1) := by decide +kernel
theorem d_Signs_nextCall_1 : decode (mcd M_Signs_nextCall) 1 = .ok (.istore_n 2, 1) := by decide +kernel
theorem d_Signs_nextCall_2 : decode (mcd M_Signs_nextCall) 2 = .ok (.iload_n 2, 1) := by decide +kernel
theorem d_Signs_nextCall_3 : decode (mcd M_Signs_nextCall) 3 = .ok (.aload_n 1, 1) := by decide +kernel
theorem d_Signs_nextCall_4 : decode (mcd M_Signs_nextCall) 4 = .ok (.invokevirtual 36, 3) := by decide +kernel
theorem d_Signs_nextCall_7 : decode (mcd M_Signs_nextCall) 7 = .ok (.if_icmp .ge 45, 3) := by decide +kernel
theorem d_Signs_nextCall_10 : decode (mcd M_Signs_nextCall) 10 = .ok (.aload_n 1, 1) := by decide +kernel
theorem d_Signs_nextCall_11 : decode (mcd M_Signs_nextCall) 11 = .ok (.iload_n 2, 1) := by decide +kernel
theorem d_Signs_nextCall_12 : decode (mcd M_Signs_nextCall) 12 = .ok (.invokevirtual 42, 3) := by decide +kernel
theorem d_Signs_nextCall_15 : decode (mcd M_Signs_nextCall) 15 = .ok (.istore_n 3, 1) := by decide +kernel
theorem d_Signs_nextCall_16 : decode (mcd M_Signs_nextCall) 16 = .ok (.iload_n 3, 1) := by decide +kernel
theorem d_Signs_nextCall_17 : decode (mcd M_Signs_nextCall) 17 = .ok (.invokestatic 32, 3) := by decide +kernel
theorem d_Signs_nextCall_20 : decode (mcd M_Signs_nextCall) 20 = .ok (.ifCond .eq 26, 3) := by decide +kernel
theorem d_Signs_nextCall_23 : decode (mcd M_Signs_nextCall) 23 = .ok (.aload_n 0, 1) := by decide +kernel
theorem d_Signs_nextCall_24 : decode (mcd M_Signs_nextCall) 24 = .ok (.iload_n 3, 1) := by decide +kernel
theorem d_Signs_nextCall_25 : decode (mcd M_Signs_nextCall) 25 = .ok (.invokevirtual 56, 3) := by decide +kernel
theorem d_Signs_nextCall_28 : decode (mcd M_Signs_nextCall) 28 = .ok (.ifCond .eq 16, 3) := by decide +kernel
theorem d_Signs_nextCall_31 : decode (mcd M_Signs_nextCall) 31 = .ok (.aload_n 1, 1) := by decide +kernel
theorem d_Signs_nextCall_32 : decode (mcd M_Signs_nextCall) 32 = .ok (.iload_n 2, 1) := by decide +kernel
theorem d_Signs_nextCall_33 : decode (mcd M_Signs_nextCall) 33 = .ok (.iconst 1, 1) := by decide +kernel
theorem d_Signs_nextCall_34 : decode (mcd M_Signs_nextCall) 34 = .ok (.iadd, 1) := by decide +kernel
theorem d_Signs_nextCall_35 : decode (mcd M_Signs_nextCall) 35 = .ok (.invokevirtual 42, 3) := by decide +kernel
theorem d_Signs_nextCall_38 : decode (mcd M_Signs_nextCall) 38 = .ok (.invokestatic 32, 3) := by decide +kernel
theorem d_Signs_nextCall_41 : decode (mcd M_Signs_nextCall) 41 = .ok (.ifCond .ne 5, 3) := by decide +kernel
theorem d_Signs_nextCall_44 : decode (mcd M_Signs_nextCall) 44 = .ok (.iload_n 2, 1) := by decide +kernel
theorem d_Signs_nextCall_45 : decode (mcd M_Signs_nextCall) 45 = .ok (.ireturn, 1) := by decide +kernel
theorem d_Signs_nextCall_46 : decode (mcd M_Signs_nextCall) 46 = .ok (.iinc 2 1, 3) := by decide +kernel
theorem d_Signs_nextCall_49 : decode (mcd M_Signs_nextCall) 49 = .ok (.goto (-47), 3) := by decide +kernel
theorem d_Signs_nextCall_52 : decode (mcd M_Signs_nextCall) 52 = .ok (.iconst (-1), 1) := by decide +kernel
theorem d_Signs_nextCall_53 : decode (mcd M_Signs_nextCall) 53 = .ok (.ireturn, 1) := by decide +kernel
theorem d_Signs_partsOf_0 : decode (mcd M_Signs_partsOf) 0 = .ok (.iload_n 1, 1) := by decide +kernel
theorem d_Signs_partsOf_1 : decode (mcd M_Signs_partsOf) 1 = .ok (.ifCond .lt 19, 3) := by decide +kernel
theorem d_Signs_partsOf_4 : decode (mcd M_Signs_partsOf) 4 = .ok (.iload_n 1, 1) := by decide +kernel
theorem d_Signs_partsOf_5 : decode (mcd M_Signs_partsOf) 5 = .ok (.sipush 401, 3) := by decide +kernel
theorem d_Signs_partsOf_8 : decode (mcd M_Signs_partsOf) 8 = .ok (.if_icmp .ge 12, 3) := by decide +kernel
theorem d_Signs_partsOf_11 : decode (mcd M_Signs_partsOf) 11 = .ok (.aload_n 0, 1) := by decide +kernel
theorem d_Signs_partsOf_12 : decode (mcd M_Signs_partsOf) 12 = .ok (.getfield 9, 3) := by decide +kernel
theorem d_Signs_partsOf_15 : decode (mcd M_Signs_partsOf) 15 = .ok (.iload_n 1, 1) := by decide +kernel
theorem d_Signs_partsOf_16 : decode (mcd M_Signs_partsOf) 16 = .ok (.iaload, 1) := by decide +kernel
theorem d_Signs_partsOf_17 : decode (mcd M_Signs_partsOf) 17 = .ok (.goto 4, 3) := by decide +kernel
theorem d_Signs_partsOf_20 : decode (mcd M_Signs_partsOf) 20 = .ok (.iconst 0, 1) := by decide +kernel
theorem d_Signs_partsOf_21 : decode (mcd M_Signs_partsOf) 21 = .ok (.ireturn, 1) := by decide +kernel
theorem d_Signs_shape_0 : decode (mcd M_Signs_shape) 0 = .ok (.iload_n 1, 1) := by decide +kernel
theorem d_Signs_shape_1 : decode (mcd M_Signs_shape) 1 = .ok (.invokestatic 32, 3) := by decide +kernel
theorem d_Signs_shape_4 : decode (mcd M_Signs_shape) 4 = .ok (.ifCond .eq 24, 3) := by decide +kernel
theorem d_Signs_shape_7 : decode (mcd M_Signs_shape) 7 = .ok (.iload_n 1, 1) := by decide +kernel
theorem d_Signs_shape_8 : decode (mcd M_Signs_shape) 8 = .ok (.sipush 401, 3) := by decide +kernel
theorem d_Signs_shape_11 : decode (mcd M_Signs_shape) 11 = .ok (.if_icmp .ge 17, 3) := by decide +kernel
theorem d_Signs_shape_14 : decode (mcd M_Signs_shape) 14 = .ok (.aload_n 0, 1) := by decide +kernel
theorem d_Signs_shape_15 : decode (mcd M_Signs_shape) 15 = .ok (.getfield 9, 3) := by decide +kernel
theorem d_Signs_shape_18 : decode (mcd M_Signs_shape) 18 = .ok (.iload_n 1, 1) := by decide +kernel
theorem d_Signs_shape_19 : decode (mcd M_Signs_shape) 19 = .ok (.iload_n 2, 1) := by decide +kernel
theorem d_Signs_shape_20 : decode (mcd M_Signs_shape) 20 = .ok (.iastore, 1) := by decide +kernel
theorem d_Signs_shape_21 : decode (mcd M_Signs_shape) 21 = .ok (.aload_n 0, 1) := by decide +kernel
theorem d_Signs_shape_22 : decode (mcd M_Signs_shape) 22 = .ok (.getfield 15, 3) := by decide +kernel
theorem d_Signs_shape_25 : decode (mcd M_Signs_shape) 25 = .ok (.iload_n 1, 1) := by decide +kernel
theorem d_Signs_shape_26 : decode (mcd M_Signs_shape) 26 = .ok (.iload_n 3, 1) := by decide +kernel
theorem d_Signs_shape_27 : decode (mcd M_Signs_shape) 27 = .ok (.bastore, 1) := by decide +kernel
theorem d_Signs_shape_28 : decode (mcd M_Signs_shape) 28 = .ok (.return_, 1) := by decide +kernel
