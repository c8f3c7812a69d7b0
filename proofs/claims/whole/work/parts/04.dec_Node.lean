theorem d_Node_init_0 : decode (mcd M_Node_init) 0 = .ok (.aload_n 0, 1) := by decide +kernel
theorem d_Node_init_1 : decode (mcd M_Node_init) 1 = .ok (.invokespecial 3, 3) := by decide +kernel
theorem d_Node_init_4 : decode (mcd M_Node_init) 4 = .ok (.aload_n 0, 1) := by decide +kernel
theorem d_Node_init_5 : decode (mcd M_Node_init) 5 = .ok (.new 9, 3) := by decide +kernel
theorem d_Node_init_8 : decode (mcd M_Node_init) 8 = .ok (.dup, 1) := by decide +kernel
theorem d_Node_init_9 : decode (mcd M_Node_init) 9 = .ok (.bipush 40, 2) := by decide +kernel
theorem d_Node_init_11 : decode (mcd M_Node_init) 11 = .ok (.invokespecial 11, 3) := by decide +kernel
theorem d_Node_init_14 : decode (mcd M_Node_init) 14 = .ok (.putfield 14, 3) := by decide +kernel
theorem d_Node_init_17 : decode (mcd M_Node_init) 17 = .ok (.aload_n 0, 1) := by decide +kernel
theorem d_Node_init_18 : decode (mcd M_Node_init) 18 = .ok (.new 9, 3) := by decide +kernel
theorem d_Node_init_21 : decode (mcd M_Node_init) 21 = .ok (.dup, 1) := by decide +kernel
theorem d_Node_init_22 : decode (mcd M_Node_init) 22 = .ok (.bipush 100, 2) := by decide +kernel
theorem d_Node_init_24 : decode (mcd M_Node_init) 24 = .ok (.invokespecial 11, 3) := by decide +kernel
theorem d_Node_init_27 : decode (mcd M_Node_init) 27 = .ok (.putfield 20, 3) := by decide +kernel
theorem d_Node_init_30 : decode (mcd M_Node_init) 30 = .ok (.aload_n 0, 1) := by decide +kernel
theorem d_Node_init_31 : decode (mcd M_Node_init) 31 = .ok (.iload_n 1, 1) := by decide +kernel
theorem d_Node_init_32 : decode (mcd M_Node_init) 32 = .ok (.putfield 23, 3) := by decide +kernel
theorem d_Node_init_35 : decode (mcd M_Node_init) 35 = .ok (.return_, 1) := by decide +kernel
theorem d_Node_become_0 : decode (mcd M_Node_become) 0 = .ok (.aload_n 0, 1) := by decide +kernel
theorem d_Node_become_1 : decode (mcd M_Node_become) 1 = .ok (.iload_n 1, 1) := by decide +kernel
theorem d_Node_become_2 : decode (mcd M_Node_become) 2 = .ok (.putfield 57, 3) := by decide +kernel
theorem d_Node_become_5 : decode (mcd M_Node_become) 5 = .ok (.aload_n 0, 1) := by decide +kernel
theorem d_Node_become_6 : decode (mcd M_Node_become) 6 = .ok (.iload_n 2, 1) := by decide +kernel
theorem d_Node_become_7 : decode (mcd M_Node_become) 7 = .ok (.putfield 60, 3) := by decide +kernel
theorem d_Node_become_10 : decode (mcd M_Node_become) 10 = .ok (.aload_n 0, 1) := by decide +kernel
theorem d_Node_become_11 : decode (mcd M_Node_become) 11 = .ok (.aconst_null, 1) := by decide +kernel
theorem d_Node_become_12 : decode (mcd M_Node_become) 12 = .ok (.putfield 63, 3) := by decide +kernel
theorem d_Node_become_15 : decode (mcd M_Node_become) 15 = .ok (.aload_n 0, 1) := by decide +kernel
theorem d_Node_become_16 : decode (mcd M_Node_become) 16 = .ok (.iconst 0, 1) := by decide +kernel
theorem d_Node_become_17 : decode (mcd M_Node_become) 17 = .ok (.putfield 66, 3) := by decide +kernel
theorem d_Node_become_20 : decode (mcd M_Node_become) 20 = .ok (.return_, 1) := by decide +kernel
theorem d_Node_dropBelow_0 : decode (mcd M_Node_dropBelow) 0 = .ok (.aload_n 0, 1) := by decide +kernel
theorem d_Node_dropBelow_1 : decode (mcd M_Node_dropBelow) 1 = .ok (.aconst_null, 1) := by decide +kernel
theorem d_Node_dropBelow_2 : decode (mcd M_Node_dropBelow) 2 = .ok (.putfield 73, 3) := by decide +kernel
theorem d_Node_dropBelow_5 : decode (mcd M_Node_dropBelow) 5 = .ok (.aload_n 0, 1) := by decide +kernel
theorem d_Node_dropBelow_6 : decode (mcd M_Node_dropBelow) 6 = .ok (.aconst_null, 1) := by decide +kernel
theorem d_Node_dropBelow_7 : decode (mcd M_Node_dropBelow) 7 = .ok (.putfield 70, 3) := by decide +kernel
theorem d_Node_dropBelow_10 : decode (mcd M_Node_dropBelow) 10 = .ok (.return_, 1) := by decide +kernel
theorem d_Node_fold_0 : decode (mcd M_Node_fold) 0 = .ok (.aload_n 0, 1) := by decide +kernel
theorem d_Node_fold_1 : decode (mcd M_Node_fold) 1 = .ok (.bipush 6, 2) := by decide +kernel
theorem d_Node_fold_3 : decode (mcd M_Node_fold) 3 = .ok (.aload_n 1, 1) := by decide +kernel
theorem d_Node_fold_4 : decode (mcd M_Node_fold) 4 = .ok (.getfield 23, 3) := by decide +kernel
theorem d_Node_fold_7 : decode (mcd M_Node_fold) 7 = .ok (.invokevirtual 53, 3) := by decide +kernel
theorem d_Node_fold_10 : decode (mcd M_Node_fold) 10 = .ok (.aload_n 0, 1) := by decide +kernel
theorem d_Node_fold_11 : decode (mcd M_Node_fold) 11 = .ok (.aload_n 1, 1) := by decide +kernel
theorem d_Node_fold_12 : decode (mcd M_Node_fold) 12 = .ok (.putfield 63, 3) := by decide +kernel
theorem d_Node_fold_15 : decode (mcd M_Node_fold) 15 = .ok (.return_, 1) := by decide +kernel
theorem d_Node_isBelow_0 : decode (mcd M_Node_isBelow) 0 = .ok (.aload_n 0, 1) := by decide +kernel
theorem d_Node_isBelow_1 : decode (mcd M_Node_isBelow) 1 = .ok (.getfield 34, 3) := by decide +kernel
theorem d_Node_isBelow_4 : decode (mcd M_Node_isBelow) 4 = .ok (.astore_n 2, 1) := by decide +kernel
theorem d_Node_isBelow_5 : decode (mcd M_Node_isBelow) 5 = .ok (.aload_n 2, 1) := by decide +kernel
theorem d_Node_isBelow_6 : decode (mcd M_Node_isBelow) 6 = .ok (.ifnull 18, 3) := by decide +kernel
theorem d_Node_isBelow_9 : decode (mcd M_Node_isBelow) 9 = .ok (.aload_n 2, 1) := by decide +kernel
theorem d_Node_isBelow_10 : decode (mcd M_Node_isBelow) 10 = .ok (.aload_n 1, 1) := by decide +kernel
theorem d_Node_isBelow_11 : decode (mcd M_Node_isBelow) 11 = .ok (.if_acmp .ne 5, 3) := by decide +kernel
theorem d_Node_isBelow_14 : decode (mcd M_Node_isBelow) 14 = .ok (.iconst 1, 1) := by decide +kernel
theorem d_Node_isBelow_15 : decode (mcd M_Node_isBelow) 15 = .ok (.ireturn, 1) := by decide +kernel
theorem d_Node_isBelow_16 : decode (mcd M_Node_isBelow) 16 = .ok (.aload_n 2, 1) := by decide +kernel
theorem d_Node_isBelow_17 : decode (mcd M_Node_isBelow) 17 = .ok (.getfield 34, 3) := by decide +kernel
theorem d_Node_isBelow_20 : decode (mcd M_Node_isBelow) 20 = .ok (.astore_n 2, 1) := by decide +kernel
theorem d_Node_isBelow_21 : decode (mcd M_Node_isBelow) 21 = .ok (.goto (-16), 3) := by decide +kernel
theorem d_Node_isBelow_24 : decode (mcd M_Node_isBelow) 24 = .ok (.iconst 0, 1) := by decide +kernel
theorem d_Node_isBelow_25 : decode (mcd M_Node_isBelow) 25 = .ok (.ireturn, 1) := by decide +kernel
theorem d_Node_open_0 : decode (mcd M_Node_open) 0 = .ok (.aload_n 0, 1) := by decide +kernel
theorem d_Node_open_1 : decode (mcd M_Node_open) 1 = .ok (.getfield 14, 3) := by decide +kernel
theorem d_Node_open_4 : decode (mcd M_Node_open) 4 = .ok (.invokevirtual 27, 3) := by decide +kernel
theorem d_Node_open_7 : decode (mcd M_Node_open) 7 = .ok (.aload_n 0, 1) := by decide +kernel
theorem d_Node_open_8 : decode (mcd M_Node_open) 8 = .ok (.getfield 14, 3) := by decide +kernel
theorem d_Node_open_11 : decode (mcd M_Node_open) 11 = .ok (.aload_n 2, 1) := by decide +kernel
theorem d_Node_open_12 : decode (mcd M_Node_open) 12 = .ok (.iload_n 3, 1) := by decide +kernel
theorem d_Node_open_13 : decode (mcd M_Node_open) 13 = .ok (.iload 4, 2) := by decide +kernel
theorem d_Node_open_15 : decode (mcd M_Node_open) 15 = .ok (.invokevirtual 30, 3) := by decide +kernel
theorem d_Node_open_18 : decode (mcd M_Node_open) 18 = .ok (.aload_n 0, 1) := by decide +kernel
theorem d_Node_open_19 : decode (mcd M_Node_open) 19 = .ok (.getfield 20, 3) := by decide +kernel
theorem d_Node_open_22 : decode (mcd M_Node_open) 22 = .ok (.invokevirtual 27, 3) := by decide +kernel
theorem d_Node_open_25 : decode (mcd M_Node_open) 25 = .ok (.aload_n 0, 1) := by decide +kernel
theorem d_Node_open_26 : decode (mcd M_Node_open) 26 = .ok (.aload_n 1, 1) := by decide +kernel
theorem d_Node_open_27 : decode (mcd M_Node_open) 27 = .ok (.putfield 34, 3) := by decide +kernel
theorem d_Node_open_30 : decode (mcd M_Node_open) 30 = .ok (.aload_n 0, 1) := by decide +kernel
theorem d_Node_open_31 : decode (mcd M_Node_open) 31 = .ok (.aconst_null, 1) := by decide +kernel
theorem d_Node_open_32 : decode (mcd M_Node_open) 32 = .ok (.putfield 38, 3) := by decide +kernel
theorem d_Node_open_35 : decode (mcd M_Node_open) 35 = .ok (.aload_n 0, 1) := by decide +kernel
theorem d_Node_open_36 : decode (mcd M_Node_open) 36 = .ok (.invokevirtual 41, 3) := by decide +kernel
theorem d_Node_open_39 : decode (mcd M_Node_open) 39 = .ok (.aload_n 0, 1) := by decide +kernel
theorem d_Node_open_40 : decode (mcd M_Node_open) 40 = .ok (.iconst (-1), 1) := by decide +kernel
theorem d_Node_open_41 : decode (mcd M_Node_open) 41 = .ok (.putfield 44, 3) := by decide +kernel
theorem d_Node_open_44 : decode (mcd M_Node_open) 44 = .ok (.aload_n 0, 1) := by decide +kernel
theorem d_Node_open_45 : decode (mcd M_Node_open) 45 = .ok (.iconst (-1), 1) := by decide +kernel
theorem d_Node_open_46 : decode (mcd M_Node_open) 46 = .ok (.putfield 47, 3) := by decide +kernel
theorem d_Node_open_49 : decode (mcd M_Node_open) 49 = .ok (.aload_n 0, 1) := by decide +kernel
theorem d_Node_open_50 : decode (mcd M_Node_open) 50 = .ok (.iconst (-1), 1) := by decide +kernel
theorem d_Node_open_51 : decode (mcd M_Node_open) 51 = .ok (.putfield 50, 3) := by decide +kernel
theorem d_Node_open_54 : decode (mcd M_Node_open) 54 = .ok (.aload_n 0, 1) := by decide +kernel
theorem d_Node_open_55 : decode (mcd M_Node_open) 55 = .ok (.bipush 8, 2) := by decide +kernel
theorem d_Node_open_57 : decode (mcd M_Node_open) 57 = .ok (.iconst (-1), 1) := by decide +kernel
theorem d_Node_open_58 : decode (mcd M_Node_open) 58 = .ok (.invokevirtual 53, 3) := by decide +kernel
theorem d_Node_open_61 : decode (mcd M_Node_open) 61 = .ok (.return_, 1) := by decide +kernel
theorem d_Node_put_0 : decode (mcd M_Node_put) 0 = .ok (.aload_n 0, 1) := by decide +kernel
theorem d_Node_put_1 : decode (mcd M_Node_put) 1 = .ok (.getfield 70, 3) := by decide +kernel
theorem d_Node_put_4 : decode (mcd M_Node_put) 4 = .ok (.ifnonnull 11, 3) := by decide +kernel
theorem d_Node_put_7 : decode (mcd M_Node_put) 7 = .ok (.aload_n 0, 1) := by decide +kernel
theorem d_Node_put_8 : decode (mcd M_Node_put) 8 = .ok (.aload_n 1, 1) := by decide +kernel
theorem d_Node_put_9 : decode (mcd M_Node_put) 9 = .ok (.putfield 73, 3) := by decide +kernel
theorem d_Node_put_12 : decode (mcd M_Node_put) 12 = .ok (.goto 11, 3) := by decide +kernel
theorem d_Node_put_15 : decode (mcd M_Node_put) 15 = .ok (.aload_n 0, 1) := by decide +kernel
theorem d_Node_put_16 : decode (mcd M_Node_put) 16 = .ok (.getfield 70, 3) := by decide +kernel
theorem d_Node_put_19 : decode (mcd M_Node_put) 19 = .ok (.aload_n 1, 1) := by decide +kernel
theorem d_Node_put_20 : decode (mcd M_Node_put) 20 = .ok (.putfield 38, 3) := by decide +kernel
theorem d_Node_put_23 : decode (mcd M_Node_put) 23 = .ok (.aload_n 0, 1) := by decide +kernel
theorem d_Node_put_24 : decode (mcd M_Node_put) 24 = .ok (.aload_n 1, 1) := by decide +kernel
theorem d_Node_put_25 : decode (mcd M_Node_put) 25 = .ok (.putfield 70, 3) := by decide +kernel
theorem d_Node_put_28 : decode (mcd M_Node_put) 28 = .ok (.return_, 1) := by decide +kernel
