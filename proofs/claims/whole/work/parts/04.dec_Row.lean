theorem d_Row_init_0 : decode (mcd M_Row_init) 0 = .ok (.aload_n 0, 1) := by decide +kernel
theorem d_Row_init_1 : decode (mcd M_Row_init) 1 = .ok (.invokespecial 3, 3) := by decide +kernel
theorem d_Row_init_4 : decode (mcd M_Row_init) 4 = .ok (.aload_n 0, 1) := by decide +kernel
theorem d_Row_init_5 : decode (mcd M_Row_init) 5 = .ok (.iload_n 1, 1) := by decide +kernel
theorem d_Row_init_6 : decode (mcd M_Row_init) 6 = .ok (.iconst 0, 1) := by decide +kernel
theorem d_Row_init_7 : decode (mcd M_Row_init) 7 = .ok (.invokestatic 9, 3) := by decide +kernel
theorem d_Row_init_10 : decode (mcd M_Row_init) 10 = .ok (.newarray .int, 2) := by decide +kernel
theorem d_Row_init_12 : decode (mcd M_Row_init) 12 = .ok (.putfield 15, 3) := by decide +kernel
theorem d_Row_init_15 : decode (mcd M_Row_init) 15 = .ok (.aload_n 0, 1) := by decide +kernel
theorem d_Row_init_16 : decode (mcd M_Row_init) 16 = .ok (.iconst 0, 1) := by decide +kernel
theorem d_Row_init_17 : decode (mcd M_Row_init) 17 = .ok (.putfield 21, 3) := by decide +kernel
theorem d_Row_init_20 : decode (mcd M_Row_init) 20 = .ok (.aload_n 0, 1) := by decide +kernel
theorem d_Row_init_21 : decode (mcd M_Row_init) 21 = .ok (.iconst 0, 1) := by decide +kernel
theorem d_Row_init_22 : decode (mcd M_Row_init) 22 = .ok (.putfield 25, 3) := by decide +kernel
theorem d_Row_init_25 : decode (mcd M_Row_init) 25 = .ok (.return_, 1) := by decide +kernel
theorem d_Row_add_0 : decode (mcd M_Row_add) 0 = .ok (.aload_n 0, 1) := by decide +kernel
theorem d_Row_add_1 : decode (mcd M_Row_add) 1 = .ok (.getfield 21, 3) := by decide +kernel
theorem d_Row_add_4 : decode (mcd M_Row_add) 4 = .ok (.ifCond .lt 38, 3) := by decide +kernel
theorem d_Row_add_7 : decode (mcd M_Row_add) 7 = .ok (.aload_n 0, 1) := by decide +kernel
theorem d_Row_add_8 : decode (mcd M_Row_add) 8 = .ok (.getfield 21, 3) := by decide +kernel
theorem d_Row_add_11 : decode (mcd M_Row_add) 11 = .ok (.aload_n 0, 1) := by decide +kernel
theorem d_Row_add_12 : decode (mcd M_Row_add) 12 = .ok (.getfield 15, 3) := by decide +kernel
theorem d_Row_add_15 : decode (mcd M_Row_add) 15 = .ok (.arraylength, 1) := by decide +kernel
theorem d_Row_add_16 : decode (mcd M_Row_add) 16 = .ok (.if_icmp .ge 26, 3) := by decide +kernel
theorem d_Row_add_19 : decode (mcd M_Row_add) 19 = .ok (.aload_n 0, 1) := by decide +kernel
theorem d_Row_add_20 : decode (mcd M_Row_add) 20 = .ok (.getfield 15, 3) := by decide +kernel
theorem d_Row_add_23 : decode (mcd M_Row_add) 23 = .ok (.aload_n 0, 1) := by decide +kernel
theorem d_Row_add_24 : decode (mcd M_Row_add) 24 = .ok (.getfield 21, 3) := by decide +kernel
theorem d_Row_add_27 : decode (mcd M_Row_add) 27 = .ok (.iload_n 1, 1) := by decide +kernel
theorem d_Row_add_28 : decode (mcd M_Row_add) 28 = .ok (.iastore, 1) := by decide +kernel
theorem d_Row_add_29 : decode (mcd M_Row_add) 29 = .ok (.aload_n 0, 1) := by decide +kernel
theorem d_Row_add_30 : decode (mcd M_Row_add) 30 = .ok (.dup, 1) := by decide +kernel
theorem d_Row_add_31 : decode (mcd M_Row_add) 31 = .ok (.getfield 21, 3) := by decide +kernel
theorem d_Row_add_34 : decode (mcd M_Row_add) 34 = .ok (.iconst 1, 1) := by decide +kernel
theorem d_Row_add_35 : decode (mcd M_Row_add) 35 = .ok (.iadd, 1) := by decide +kernel
theorem d_Row_add_36 : decode (mcd M_Row_add) 36 = .ok (.putfield 21, 3) := by decide +kernel
theorem d_Row_add_39 : decode (mcd M_Row_add) 39 = .ok (.goto 8, 3) := by decide +kernel
theorem d_Row_add_42 : decode (mcd M_Row_add) 42 = .ok (.aload_n 0, 1) := by decide +kernel
theorem d_Row_add_43 : decode (mcd M_Row_add) 43 = .ok (.iconst 1, 1) := by decide +kernel
theorem d_Row_add_44 : decode (mcd M_Row_add) 44 = .ok (.putfield 25, 3) := by decide +kernel
theorem d_Row_add_47 : decode (mcd M_Row_add) 47 = .ok (.return_, 1) := by decide +kernel
theorem d_Row_addRange_0 : decode (mcd M_Row_addRange) 0 = .ok (.iload_n 2, 1) := by decide +kernel
theorem d_Row_addRange_1 : decode (mcd M_Row_addRange) 1 = .ok (.iconst 0, 1) := by decide +kernel
theorem d_Row_addRange_2 : decode (mcd M_Row_addRange) 2 = .ok (.invokestatic 9, 3) := by decide +kernel
theorem d_Row_addRange_5 : decode (mcd M_Row_addRange) 5 = .ok (.istore 4, 2) := by decide +kernel
theorem d_Row_addRange_7 : decode (mcd M_Row_addRange) 7 = .ok (.iload_n 3, 1) := by decide +kernel
theorem d_Row_addRange_8 : decode (mcd M_Row_addRange) 8 = .ok (.aload_n 1, 1) := by decide +kernel
theorem d_Row_addRange_9 : decode (mcd M_Row_addRange) 9 = .ok (.getfield 21, 3) := by decide +kernel
theorem d_Row_addRange_12 : decode (mcd M_Row_addRange) 12 = .ok (.invokestatic 29, 3) := by decide +kernel
theorem d_Row_addRange_15 : decode (mcd M_Row_addRange) 15 = .ok (.iload 4, 2) := by decide +kernel
theorem d_Row_addRange_17 : decode (mcd M_Row_addRange) 17 = .ok (.isub, 1) := by decide +kernel
theorem d_Row_addRange_18 : decode (mcd M_Row_addRange) 18 = .ok (.istore 5, 2) := by decide +kernel
theorem d_Row_addRange_20 : decode (mcd M_Row_addRange) 20 = .ok (.iload 5, 2) := by decide +kernel
theorem d_Row_addRange_22 : decode (mcd M_Row_addRange) 22 = .ok (.aload_n 0, 1) := by decide +kernel
theorem d_Row_addRange_23 : decode (mcd M_Row_addRange) 23 = .ok (.getfield 15, 3) := by decide +kernel
theorem d_Row_addRange_26 : decode (mcd M_Row_addRange) 26 = .ok (.arraylength, 1) := by decide +kernel
theorem d_Row_addRange_27 : decode (mcd M_Row_addRange) 27 = .ok (.aload_n 0, 1) := by decide +kernel
theorem d_Row_addRange_28 : decode (mcd M_Row_addRange) 28 = .ok (.getfield 21, 3) := by decide +kernel
theorem d_Row_addRange_31 : decode (mcd M_Row_addRange) 31 = .ok (.isub, 1) := by decide +kernel
theorem d_Row_addRange_32 : decode (mcd M_Row_addRange) 32 = .ok (.invokestatic 29, 3) := by decide +kernel
theorem d_Row_addRange_35 : decode (mcd M_Row_addRange) 35 = .ok (.istore 6, 2) := by decide +kernel
theorem d_Row_addRange_37 : decode (mcd M_Row_addRange) 37 = .ok (.iload 6, 2) := by decide +kernel
theorem d_Row_addRange_39 : decode (mcd M_Row_addRange) 39 = .ok (.ifCond .le 33, 3) := by decide +kernel
theorem d_Row_addRange_42 : decode (mcd M_Row_addRange) 42 = .ok (.aload_n 1, 1) := by decide +kernel
theorem d_Row_addRange_43 : decode (mcd M_Row_addRange) 43 = .ok (.getfield 15, 3) := by decide +kernel
theorem d_Row_addRange_46 : decode (mcd M_Row_addRange) 46 = .ok (.iload 4, 2) := by decide +kernel
theorem d_Row_addRange_48 : decode (mcd M_Row_addRange) 48 = .ok (.aload_n 0, 1) := by decide +kernel
theorem d_Row_addRange_49 : decode (mcd M_Row_addRange) 49 = .ok (.getfield 15, 3) := by decide +kernel
theorem d_Row_addRange_52 : decode (mcd M_Row_addRange) 52 = .ok (.aload_n 0, 1) := by decide +kernel
theorem d_Row_addRange_53 : decode (mcd M_Row_addRange) 53 = .ok (.getfield 21, 3) := by decide +kernel
theorem d_Row_addRange_56 : decode (mcd M_Row_addRange) 56 = .ok (.iload 6, 2) := by decide +kernel
theorem d_Row_addRange_58 : decode (mcd M_Row_addRange) 58 = .ok (.invokestatic 32, 3) := by decide +kernel
theorem d_Row_addRange_61 : decode (mcd M_Row_addRange) 61 = .ok (.aload_n 0, 1) := by decide +kernel
theorem d_Row_addRange_62 : decode (mcd M_Row_addRange) 62 = .ok (.dup, 1) := by decide +kernel
theorem d_Row_addRange_63 : decode (mcd M_Row_addRange) 63 = .ok (.getfield 21, 3) := by decide +kernel
theorem d_Row_addRange_66 : decode (mcd M_Row_addRange) 66 = .ok (.iload 6, 2) := by decide +kernel
theorem d_Row_addRange_68 : decode (mcd M_Row_addRange) 68 = .ok (.iadd, 1) := by decide +kernel
theorem d_Row_addRange_69 : decode (mcd M_Row_addRange) 69 = .ok (.putfield 21, 3) := by decide +kernel
theorem d_Row_addRange_72 : decode (mcd M_Row_addRange) 72 = .ok (.iload 5, 2) := by decide +kernel
theorem d_Row_addRange_74 : decode (mcd M_Row_addRange) 74 = .ok (.iload 6, 2) := by decide +kernel
theorem d_Row_addRange_76 : decode (mcd M_Row_addRange) 76 = .ok (.if_icmp .le 8, 3) := by decide +kernel
theorem d_Row_addRange_79 : decode (mcd M_Row_addRange) 79 = .ok (.aload_n 0, 1) := by decide +kernel
theorem d_Row_addRange_80 : decode (mcd M_Row_addRange) 80 = .ok (.iconst 1, 1) := by decide +kernel
theorem d_Row_addRange_81 : decode (mcd M_Row_addRange) 81 = .ok (.putfield 25, 3) := by decide +kernel
theorem d_Row_addRange_84 : decode (mcd M_Row_addRange) 84 = .ok (.return_, 1) := by decide +kernel
theorem d_Row_at_0 : decode (mcd M_Row_at) 0 = .ok (.iload_n 1, 1) := by decide +kernel
theorem d_Row_at_1 : decode (mcd M_Row_at) 1 = .ok (.ifCond .lt 29, 3) := by decide +kernel
theorem d_Row_at_4 : decode (mcd M_Row_at) 4 = .ok (.iload_n 1, 1) := by decide +kernel
theorem d_Row_at_5 : decode (mcd M_Row_at) 5 = .ok (.aload_n 0, 1) := by decide +kernel
theorem d_Row_at_6 : decode (mcd M_Row_at) 6 = .ok (.getfield 21, 3) := by decide +kernel
theorem d_Row_at_9 : decode (mcd M_Row_at) 9 = .ok (.if_icmp .ge 21, 3) := by decide +kernel
theorem d_Row_at_12 : decode (mcd M_Row_at) 12 = .ok (.iload_n 1, 1) := by decide +kernel
theorem d_Row_at_13 : decode (mcd M_Row_at) 13 = .ok (.aload_n 0, 1) := by decide +kernel
theorem d_Row_at_14 : decode (mcd M_Row_at) 14 = .ok (.getfield 15, 3) := by decide +kernel
theorem d_Row_at_17 : decode (mcd M_Row_at) 17 = .ok (.arraylength, 1) := by decide +kernel
theorem d_Row_at_18 : decode (mcd M_Row_at) 18 = .ok (.if_icmp .ge 12, 3) := by decide +kernel
theorem d_Row_at_21 : decode (mcd M_Row_at) 21 = .ok (.aload_n 0, 1) := by decide +kernel
theorem d_Row_at_22 : decode (mcd M_Row_at) 22 = .ok (.getfield 15, 3) := by decide +kernel
theorem d_Row_at_25 : decode (mcd M_Row_at) 25 = .ok (.iload_n 1, 1) := by decide +kernel
theorem d_Row_at_26 : decode (mcd M_Row_at) 26 = .ok (.iaload, 1) := by decide +kernel
theorem d_Row_at_27 : decode (mcd M_Row_at) 27 = .ok (.goto 4, 3) := by decide +kernel
theorem d_Row_at_30 : decode (mcd M_Row_at) 30 = .ok (.iconst (-1), 1) := by decide +kernel
theorem d_Row_at_31 : decode (mcd M_Row_at) 31 = .ok (.ireturn, 1) := by decide +kernel
theorem d_Row_clear_0 : decode (mcd M_Row_clear) 0 = .ok (.aload_n 0, 1) := by decide +kernel
theorem d_Row_clear_1 : decode (mcd M_Row_clear) 1 = .ok (.iconst 0, 1) := by decide +kernel
theorem d_Row_clear_2 : decode (mcd M_Row_clear) 2 = .ok (.putfield 21, 3) := by decide +kernel
theorem d_Row_clear_5 : decode (mcd M_Row_clear) 5 = .ok (.aload_n 0, 1) := by decide +kernel
theorem d_Row_clear_6 : decode (mcd M_Row_clear) 6 = .ok (.iconst 0, 1) := by decide +kernel
theorem d_Row_clear_7 : decode (mcd M_Row_clear) 7 = .ok (.putfield 25, 3) := by decide +kernel
theorem d_Row_clear_10 : decode (mcd M_Row_clear) 10 = .ok (.return_, 1) := by decide +kernel
theorem d_Row_copy_0 : decode (mcd M_Row_copy) 0 = .ok (.aload_n 0, 1) := by decide +kernel
theorem d_Row_copy_1 : decode (mcd M_Row_copy) 1 = .ok (.invokevirtual 38, 3) := by decide +kernel
theorem d_Row_copy_4 : decode (mcd M_Row_copy) 4 = .ok (.aload_n 0, 1) := by decide +kernel
theorem d_Row_copy_5 : decode (mcd M_Row_copy) 5 = .ok (.aload_n 1, 1) := by decide +kernel
theorem d_Row_copy_6 : decode (mcd M_Row_copy) 6 = .ok (.iconst 0, 1) := by decide +kernel
theorem d_Row_copy_7 : decode (mcd M_Row_copy) 7 = .ok (.aload_n 1, 1) := by decide +kernel
theorem d_Row_copy_8 : decode (mcd M_Row_copy) 8 = .ok (.getfield 21, 3) := by decide +kernel
theorem d_Row_copy_11 : decode (mcd M_Row_copy) 11 = .ok (.invokevirtual 41, 3) := by decide +kernel
theorem d_Row_copy_14 : decode (mcd M_Row_copy) 14 = .ok (.return_, 1) := by decide +kernel
theorem d_Row_indexOf_0 : decode (mcd M_Row_indexOf) 0 = .ok (.iconst 0, 1) := by decide +kernel
theorem d_Row_indexOf_1 : decode (mcd M_Row_indexOf) 1 = .ok (.istore_n 2, 1) := by decide +kernel
theorem d_Row_indexOf_2 : decode (mcd M_Row_indexOf) 2 = .ok (.iload_n 2, 1) := by decide +kernel
theorem d_Row_indexOf_3 : decode (mcd M_Row_indexOf) 3 = .ok (.aload_n 0, 1) := by decide +kernel
theorem d_Row_indexOf_4 : decode (mcd M_Row_indexOf) 4 = .ok (.getfield 21, 3) := by decide +kernel
theorem d_Row_indexOf_7 : decode (mcd M_Row_indexOf) 7 = .ok (.if_icmp .ge 20, 3) := by decide +kernel
theorem d_Row_indexOf_10 : decode (mcd M_Row_indexOf) 10 = .ok (.aload_n 0, 1) := by decide +kernel
theorem d_Row_indexOf_11 : decode (mcd M_Row_indexOf) 11 = .ok (.iload_n 2, 1) := by decide +kernel
theorem d_Row_indexOf_12 : decode (mcd M_Row_indexOf) 12 = .ok (.invokevirtual 45, 3) := by decide +kernel
theorem d_Row_indexOf_15 : decode (mcd M_Row_indexOf) 15 = .ok (.iload_n 1, 1) := by decide +kernel
theorem d_Row_indexOf_16 : decode (mcd M_Row_indexOf) 16 = .ok (.if_icmp .ne 5, 3) := by decide +kernel
theorem d_Row_indexOf_19 : decode (mcd M_Row_indexOf) 19 = .ok (.iload_n 2, 1) := by decide +kernel
theorem d_Row_indexOf_20 : decode (mcd M_Row_indexOf) 20 = .ok (.ireturn, 1) := by decide +kernel
theorem d_Row_indexOf_21 : decode (mcd M_Row_indexOf) 21 = .ok (.iinc 2 1, 3) := by decide +kernel
theorem d_Row_indexOf_24 : decode (mcd M_Row_indexOf) 24 = .ok (.goto (-22), 3) := by decide +kernel
theorem d_Row_indexOf_27 : decode (mcd M_Row_indexOf) 27 = .ok (.iconst (-1), 1) := by decide +kernel
theorem d_Row_indexOf_28 : decode (mcd M_Row_indexOf) 28 = .ok (.ireturn, 1) := by decide +kernel
theorem d_Row_isEmpty_0 : decode (mcd M_Row_isEmpty) 0 = .ok (.aload_n 0, 1) := by decide +kernel
theorem d_Row_isEmpty_1 : decode (mcd M_Row_isEmpty) 1 = .ok (.getfield 21, 3) := by decide +kernel
theorem d_Row_isEmpty_4 : decode (mcd M_Row_isEmpty) 4 = .ok (.ifCond .ne 7, 3) := by decide +kernel
theorem d_Row_isEmpty_7 : decode (mcd M_Row_isEmpty) 7 = .ok (.iconst 1, 1) := by decide +kernel
theorem d_Row_isEmpty_8 : decode (mcd M_Row_isEmpty) 8 = .ok (.goto 4, 3) := by decide +kernel
theorem d_Row_isEmpty_11 : decode (mcd M_Row_isEmpty) 11 = .ok (.iconst 0, 1) := by decide +kernel
theorem d_Row_isEmpty_12 : decode (mcd M_Row_isEmpty) 12 = .ok (.ireturn, 1) := by decide +kernel
theorem d_Row_isRenamingOf_0 : decode (mcd M_Row_isRenamingOf) 0 = .ok (.aload_n 0, 1) := by decide +kernel
theorem d_Row_isRenamingOf_1 : decode (mcd M_Row_isRenamingOf) 1 = .ok (.getfield 21, 3) := by decide +kernel
theorem d_Row_isRenamingOf_4 : decode (mcd M_Row_isRenamingOf) 4 = .ok (.aload_n 1, 1) := by decide +kernel
theorem d_Row_isRenamingOf_5 : decode (mcd M_Row_isRenamingOf) 5 = .ok (.getfield 21, 3) := by decide +kernel
theorem d_Row_isRenamingOf_8 : decode (mcd M_Row_isRenamingOf) 8 = .ok (.if_icmp .eq 5, 3) := by decide +kernel
theorem d_Row_isRenamingOf_11 : decode (mcd M_Row_isRenamingOf) 11 = .ok (.iconst 0, 1) := by decide +kernel
theorem d_Row_isRenamingOf_12 : decode (mcd M_Row_isRenamingOf) 12 = .ok (.ireturn, 1) := by decide +kernel
theorem d_Row_isRenamingOf_13 : decode (mcd M_Row_isRenamingOf) 13 = .ok (.iconst 0, 1) := by decide +kernel
theorem d_Row_isRenamingOf_14 : decode (mcd M_Row_isRenamingOf) 14 = .ok (.istore_n 2, 1) := by decide +kernel
theorem d_Row_isRenamingOf_15 : decode (mcd M_Row_isRenamingOf) 15 = .ok (.iload_n 2, 1) := by decide +kernel
theorem d_Row_isRenamingOf_16 : decode (mcd M_Row_isRenamingOf) 16 = .ok (.aload_n 0, 1) := by decide +kernel
theorem d_Row_isRenamingOf_17 : decode (mcd M_Row_isRenamingOf) 17 = .ok (.getfield 21, 3) := by decide +kernel
theorem d_Row_isRenamingOf_20 : decode (mcd M_Row_isRenamingOf) 20 = .ok (.if_icmp .ge 61, 3) := by decide +kernel
theorem d_Row_isRenamingOf_23 : decode (mcd M_Row_isRenamingOf) 23 = .ok (.aload_n 0, 1) := by decide +kernel
theorem d_Row_isRenamingOf_24 : decode (mcd M_Row_isRenamingOf) 24 = .ok (.iload_n 2, 1) := by decide +kernel
theorem d_Row_isRenamingOf_25 : decode (mcd M_Row_isRenamingOf) 25 = .ok (.invokevirtual 45, 3) := by decide +kernel
theorem d_Row_isRenamingOf_28 : decode (mcd M_Row_isRenamingOf) 28 = .ok (.istore_n 3, 1) := by decide +kernel
theorem d_Row_isRenamingOf_29 : decode (mcd M_Row_isRenamingOf) 29 = .ok (.aload_n 1, 1) := by decide +kernel
theorem d_Row_isRenamingOf_30 : decode (mcd M_Row_isRenamingOf) 30 = .ok (.iload_n 2, 1) := by decide +kernel
theorem d_Row_isRenamingOf_31 : decode (mcd M_Row_isRenamingOf) 31 = .ok (.invokevirtual 45, 3) := by decide +kernel
theorem d_Row_isRenamingOf_34 : decode (mcd M_Row_isRenamingOf) 34 = .ok (.istore 4, 2) := by decide +kernel
theorem d_Row_isRenamingOf_36 : decode (mcd M_Row_isRenamingOf) 36 = .ok (.iload_n 3, 1) := by decide +kernel
theorem d_Row_isRenamingOf_37 : decode (mcd M_Row_isRenamingOf) 37 = .ok (.invokestatic 49, 3) := by decide +kernel
theorem d_Row_isRenamingOf_40 : decode (mcd M_Row_isRenamingOf) 40 = .ok (.ifCond .eq 27, 3) := by decide +kernel
theorem d_Row_isRenamingOf_43 : decode (mcd M_Row_isRenamingOf) 43 = .ok (.iload 4, 2) := by decide +kernel
theorem d_Row_isRenamingOf_45 : decode (mcd M_Row_isRenamingOf) 45 = .ok (.invokestatic 49, 3) := by decide +kernel
theorem d_Row_isRenamingOf_48 : decode (mcd M_Row_isRenamingOf) 48 = .ok (.ifCond .eq 19, 3) := by decide +kernel
theorem d_Row_isRenamingOf_51 : decode (mcd M_Row_isRenamingOf) 51 = .ok (.aload_n 0, 1) := by decide +kernel
theorem d_Row_isRenamingOf_52 : decode (mcd M_Row_isRenamingOf) 52 = .ok (.iload_n 3, 1) := by decide +kernel
theorem d_Row_isRenamingOf_53 : decode (mcd M_Row_isRenamingOf) 53 = .ok (.invokevirtual 53, 3) := by decide +kernel
theorem d_Row_isRenamingOf_56 : decode (mcd M_Row_isRenamingOf) 56 = .ok (.aload_n 1, 1) := by decide +kernel
theorem d_Row_isRenamingOf_57 : decode (mcd M_Row_isRenamingOf) 57 = .ok (.iload 4, 2) := by decide +kernel
theorem d_Row_isRenamingOf_59 : decode (mcd M_Row_isRenamingOf) 59 = .ok (.invokevirtual 53, 3) := by decide +kernel
theorem d_Row_isRenamingOf_62 : decode (mcd M_Row_isRenamingOf) 62 = .ok (.if_icmp .eq 13, 3) := by decide +kernel
theorem d_Row_isRenamingOf_65 : decode (mcd M_Row_isRenamingOf) 65 = .ok (.iconst 0, 1) := by decide +kernel
theorem d_Row_isRenamingOf_66 : decode (mcd M_Row_isRenamingOf) 66 = .ok (.ireturn, 1) := by decide +kernel
theorem d_Row_isRenamingOf_67 : decode (mcd M_Row_isRenamingOf) 67 = .ok (.iload_n 3, 1) := by decide +kernel
theorem d_Row_isRenamingOf_68 : decode (mcd M_Row_isRenamingOf) 68 = .ok (.iload 4, 2) := by decide +kernel
theorem d_Row_isRenamingOf_70 : decode (mcd M_Row_isRenamingOf) 70 = .ok (.if_icmp .eq 5, 3) := by decide +kernel
theorem d_Row_isRenamingOf_73 : decode (mcd M_Row_isRenamingOf) 73 = .ok (.iconst 0, 1) := by decide +kernel
theorem d_Row_isRenamingOf_74 : decode (mcd M_Row_isRenamingOf) 74 = .ok (.ireturn, 1) := by decide +kernel
theorem d_Row_isRenamingOf_75 : decode (mcd M_Row_isRenamingOf) 75 = .ok (.iinc 2 1, 3) := by decide +kernel
theorem d_Row_isRenamingOf_78 : decode (mcd M_Row_isRenamingOf) 78 = .ok (.goto (-63), 3) := by decide +kernel
theorem d_Row_isRenamingOf_81 : decode (mcd M_Row_isRenamingOf) 81 = .ok (.iconst 1, 1) := by decide +kernel
theorem d_Row_isRenamingOf_82 : decode (mcd M_Row_isRenamingOf) 82 = .ok (.ireturn, 1) := by decide +kernel
theorem d_Row_isTooLong_0 : decode (mcd M_Row_isTooLong) 0 = .ok (.aload_n 0, 1) := by decide +kernel
theorem d_Row_isTooLong_1 : decode (mcd M_Row_isTooLong) 1 = .ok (.getfield 25, 3) := by decide +kernel
theorem d_Row_isTooLong_4 : decode (mcd M_Row_isTooLong) 4 = .ok (.ireturn, 1) := by decide +kernel
theorem d_Row_length_0 : decode (mcd M_Row_length) 0 = .ok (.aload_n 0, 1) := by decide +kernel
theorem d_Row_length_1 : decode (mcd M_Row_length) 1 = .ok (.getfield 21, 3) := by decide +kernel
theorem d_Row_length_4 : decode (mcd M_Row_length) 4 = .ok (.ireturn, 1) := by decide +kernel
theorem d_Row_repeats_0 : decode (mcd M_Row_repeats) 0 = .ok (.iconst 0, 1) := by decide +kernel
theorem d_Row_repeats_1 : decode (mcd M_Row_repeats) 1 = .ok (.istore 4, 2) := by decide +kernel
theorem d_Row_repeats_3 : decode (mcd M_Row_repeats) 3 = .ok (.iload 4, 2) := by decide +kernel
theorem d_Row_repeats_5 : decode (mcd M_Row_repeats) 5 = .ok (.iload_n 2, 1) := by decide +kernel
theorem d_Row_repeats_6 : decode (mcd M_Row_repeats) 6 = .ok (.iload_n 1, 1) := by decide +kernel
theorem d_Row_repeats_7 : decode (mcd M_Row_repeats) 7 = .ok (.isub, 1) := by decide +kernel
theorem d_Row_repeats_8 : decode (mcd M_Row_repeats) 8 = .ok (.if_icmp .ge 30, 3) := by decide +kernel
theorem d_Row_repeats_11 : decode (mcd M_Row_repeats) 11 = .ok (.aload_n 0, 1) := by decide +kernel
theorem d_Row_repeats_12 : decode (mcd M_Row_repeats) 12 = .ok (.iload_n 1, 1) := by decide +kernel
theorem d_Row_repeats_13 : decode (mcd M_Row_repeats) 13 = .ok (.iload 4, 2) := by decide +kernel
theorem d_Row_repeats_15 : decode (mcd M_Row_repeats) 15 = .ok (.iadd, 1) := by decide +kernel
theorem d_Row_repeats_16 : decode (mcd M_Row_repeats) 16 = .ok (.invokevirtual 45, 3) := by decide +kernel
theorem d_Row_repeats_19 : decode (mcd M_Row_repeats) 19 = .ok (.aload_n 0, 1) := by decide +kernel
theorem d_Row_repeats_20 : decode (mcd M_Row_repeats) 20 = .ok (.iload_n 3, 1) := by decide +kernel
theorem d_Row_repeats_21 : decode (mcd M_Row_repeats) 21 = .ok (.iload 4, 2) := by decide +kernel
theorem d_Row_repeats_23 : decode (mcd M_Row_repeats) 23 = .ok (.iadd, 1) := by decide +kernel
theorem d_Row_repeats_24 : decode (mcd M_Row_repeats) 24 = .ok (.invokevirtual 45, 3) := by decide +kernel
theorem d_Row_repeats_27 : decode (mcd M_Row_repeats) 27 = .ok (.if_icmp .eq 5, 3) := by decide +kernel
theorem d_Row_repeats_30 : decode (mcd M_Row_repeats) 30 = .ok (.iconst 0, 1) := by decide +kernel
theorem d_Row_repeats_31 : decode (mcd M_Row_repeats) 31 = .ok (.ireturn, 1) := by decide +kernel
theorem d_Row_repeats_32 : decode (mcd M_Row_repeats) 32 = .ok (.iinc 4 1, 3) := by decide +kernel
theorem d_Row_repeats_35 : decode (mcd M_Row_repeats) 35 = .ok (.goto (-32), 3) := by decide +kernel
theorem d_Row_repeats_38 : decode (mcd M_Row_repeats) 38 = .ok (.iconst 1, 1) := by decide +kernel
theorem d_Row_repeats_39 : decode (mcd M_Row_repeats) 39 = .ok (.ireturn, 1) := by decide +kernel
