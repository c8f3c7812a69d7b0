theorem d_SD_init_0 : decode (mcd M_SD_init) 0 = .ok (.aload_n 0, 1) := by decide +kernel
theorem d_SD_init_1 : decode (mcd M_SD_init) 1 = .ok (.invokespecial 3, 3) := by decide +kernel
theorem d_SD_init_4 : decode (mcd M_SD_init) 4 = .ok (.aload_n 0, 1) := by decide +kernel
theorem d_SD_init_5 : decode (mcd M_SD_init) 5 = .ok (.new 9, 3) := by decide +kernel
theorem d_SD_init_8 : decode (mcd M_SD_init) 8 = .ok (.dup, 1) := by decide +kernel
theorem d_SD_init_9 : decode (mcd M_SD_init) 9 = .ok (.bipush 24, 2) := by decide +kernel
theorem d_SD_init_11 : decode (mcd M_SD_init) 11 = .ok (.invokespecial 11, 3) := by decide +kernel
theorem d_SD_init_14 : decode (mcd M_SD_init) 14 = .ok (.putfield 14, 3) := by decide +kernel
theorem d_SD_init_17 : decode (mcd M_SD_init) 17 = .ok (.aload_n 0, 1) := by decide +kernel
theorem d_SD_init_18 : decode (mcd M_SD_init) 18 = .ok (.new 9, 3) := by decide +kernel
theorem d_SD_init_21 : decode (mcd M_SD_init) 21 = .ok (.dup, 1) := by decide +kernel
theorem d_SD_init_22 : decode (mcd M_SD_init) 22 = .ok (.bipush 24, 2) := by decide +kernel
theorem d_SD_init_24 : decode (mcd M_SD_init) 24 = .ok (.invokespecial 11, 3) := by decide +kernel
theorem d_SD_init_27 : decode (mcd M_SD_init) 27 = .ok (.putfield 18, 3) := by decide +kernel
theorem d_SD_init_30 : decode (mcd M_SD_init) 30 = .ok (.aload_n 0, 1) := by decide +kernel
theorem d_SD_init_31 : decode (mcd M_SD_init) 31 = .ok (.bipush 8, 2) := by decide +kernel
theorem d_SD_init_33 : decode (mcd M_SD_init) 33 = .ok (.anewarray 9, 3) := by decide +kernel
theorem d_SD_init_36 : decode (mcd M_SD_init) 36 = .ok (.putfield 21, 3) := by decide +kernel
theorem d_SD_init_39 : decode (mcd M_SD_init) 39 = .ok (.iconst 0, 1) := by decide +kernel
theorem d_SD_init_40 : decode (mcd M_SD_init) 40 = .ok (.istore_n 1, 1) := by decide +kernel
theorem d_SD_init_41 : decode (mcd M_SD_init) 41 = .ok (.iload_n 1, 1) := by decide +kernel
theorem d_SD_init_42 : decode (mcd M_SD_init) 42 = .ok (.bipush 8, 2) := by decide +kernel
theorem d_SD_init_44 : decode (mcd M_SD_init) 44 = .ok (.if_icmp .ge 24, 3) := by decide +kernel
theorem d_SD_init_47 : decode (mcd M_SD_init) 47 = .ok (.aload_n 0, 1) := by decide +kernel
theorem d_SD_init_48 : decode (mcd M_SD_init) 48 = .ok (.getfield 21, 3) := by decide +kernel
theorem d_SD_init_51 : decode (mcd M_SD_init) 51 = .ok (.iload_n 1, 1) := by decide +kernel
theorem d_SD_init_52 : decode (mcd M_SD_init) 52 = .ok (.new 9, 3) := by decide +kernel
theorem d_SD_init_55 : decode (mcd M_SD_init) 55 = .ok (.dup, 1) := by decide +kernel
theorem d_SD_init_56 : decode (mcd M_SD_init) 56 = .ok (.bipush 24, 2) := by decide +kernel
theorem d_SD_init_58 : decode (mcd M_SD_init) 58 = .ok (.invokespecial 11, 3) := by decide +kernel
theorem d_SD_init_61 : decode (mcd M_SD_init) 61 = .ok (.aastore, 1) := by decide +kernel
theorem d_SD_init_62 : decode (mcd M_SD_init) 62 = .ok (.iinc 1 1, 3) := by decide +kernel
theorem d_SD_init_65 : decode (mcd M_SD_init) 65 = .ok (.goto (-24), 3) := by decide +kernel
theorem d_SD_init_68 : decode (mcd M_SD_init) 68 = .ok (.new 25, 3) := by decide +kernel
theorem d_SD_init_71 : decode (mcd M_SD_init) 71 = .ok (.dup, 1) := by decide +kernel
theorem d_SD_init_72 : decode (mcd M_SD_init) 72 = .ok (.invokespecial 27, 3) := by decide +kernel
theorem d_SD_init_75 : decode (mcd M_SD_init) 75 = .ok (.astore_n 1, 1) := by decide +kernel
theorem d_SD_init_76 : decode (mcd M_SD_init) 76 = .ok (.aload_n 0, 1) := by decide +kernel
theorem d_SD_init_77 : decode (mcd M_SD_init) 77 = .ok (.new 28, 3) := by decide +kernel
theorem d_SD_init_80 : decode (mcd M_SD_init) 80 = .ok (.dup, 1) := by decide +kernel
theorem d_SD_init_81 : decode (mcd M_SD_init) 81 = .ok (.invokespecial 30, 3) := by decide +kernel
theorem d_SD_init_84 : decode (mcd M_SD_init) 84 = .ok (.putfield 31, 3) := by decide +kernel
theorem d_SD_init_87 : decode (mcd M_SD_init) 87 = .ok (.aload_n 0, 1) := by decide +kernel
theorem d_SD_init_88 : decode (mcd M_SD_init) 88 = .ok (.new 35, 3) := by decide +kernel
theorem d_SD_init_91 : decode (mcd M_SD_init) 91 = .ok (.dup, 1) := by decide +kernel
theorem d_SD_init_92 : decode (mcd M_SD_init) 92 = .ok (.aload_n 0, 1) := by decide +kernel
theorem d_SD_init_93 : decode (mcd M_SD_init) 93 = .ok (.getfield 31, 3) := by decide +kernel
theorem d_SD_init_96 : decode (mcd M_SD_init) 96 = .ok (.aload_n 1, 1) := by decide +kernel
theorem d_SD_init_97 : decode (mcd M_SD_init) 97 = .ok (.invokespecial 37, 3) := by decide +kernel
theorem d_SD_init_100 : decode (mcd M_SD_init) 100 = .ok (.putfield 40, 3) := by decide +kernel
theorem d_SD_init_103 : decode (mcd M_SD_init) 103 = .ok (.aload_n 0, 1) := by decide +kernel
theorem d_SD_init_104 : decode (mcd M_SD_init) 104 = .ok (.new 44, 3) := by decide +kernel
theorem d_SD_init_107 : decode (mcd M_SD_init) 107 = .ok (.dup, 1) := by decide +kernel
theorem d_SD_init_108 : decode (mcd M_SD_init) 108 = .ok (.invokespecial 46, 3) := by decide +kernel
theorem d_SD_init_111 : decode (mcd M_SD_init) 111 = .ok (.putfield 47, 3) := by decide +kernel
theorem d_SD_init_114 : decode (mcd M_SD_init) 114 = .ok (.aload_n 0, 1) := by decide +kernel
theorem d_SD_init_115 : decode (mcd M_SD_init) 115 = .ok (.new 51, 3) := by decide +kernel
theorem d_SD_init_118 : decode (mcd M_SD_init) 118 = .ok (.dup, 1) := by decide +kernel
theorem d_SD_init_119 : decode (mcd M_SD_init) 119 = .ok (.aload_n 0, 1) := by decide +kernel
theorem d_SD_init_120 : decode (mcd M_SD_init) 120 = .ok (.getfield 31, 3) := by decide +kernel
theorem d_SD_init_123 : decode (mcd M_SD_init) 123 = .ok (.aload_n 0, 1) := by decide +kernel
theorem d_SD_init_124 : decode (mcd M_SD_init) 124 = .ok (.getfield 40, 3) := by decide +kernel
theorem d_SD_init_127 : decode (mcd M_SD_init) 127 = .ok (.aload_n 0, 1) := by decide +kernel
theorem d_SD_init_128 : decode (mcd M_SD_init) 128 = .ok (.getfield 47, 3) := by decide +kernel
theorem d_SD_init_131 : decode (mcd M_SD_init) 131 = .ok (.aload_n 1, 1) := by decide +kernel
theorem d_SD_init_132 : decode (mcd M_SD_init) 132 = .ok (.invokespecial 53, 3) := by decide +kernel
theorem d_SD_init_135 : decode (mcd M_SD_init) 135 = .ok (.putfield 56, 3) := by decide +kernel
theorem d_SD_init_138 : decode (mcd M_SD_init) 138 = .ok (.aload_n 0, 1) := by decide +kernel
theorem d_SD_init_139 : decode (mcd M_SD_init) 139 = .ok (.new 60, 3) := by decide +kernel
theorem d_SD_init_142 : decode (mcd M_SD_init) 142 = .ok (.dup, 1) := by decide +kernel
theorem d_SD_init_143 : decode (mcd M_SD_init) 143 = .ok (.aload_n 0, 1) := by decide +kernel
theorem d_SD_init_144 : decode (mcd M_SD_init) 144 = .ok (.getfield 31, 3) := by decide +kernel
theorem d_SD_init_147 : decode (mcd M_SD_init) 147 = .ok (.aload_n 1, 1) := by decide +kernel
theorem d_SD_init_148 : decode (mcd M_SD_init) 148 = .ok (.aload_n 0, 1) := by decide +kernel
theorem d_SD_init_149 : decode (mcd M_SD_init) 149 = .ok (.getfield 47, 3) := by decide +kernel
theorem d_SD_init_152 : decode (mcd M_SD_init) 152 = .ok (.invokespecial 62, 3) := by decide +kernel
theorem d_SD_init_155 : decode (mcd M_SD_init) 155 = .ok (.putfield 65, 3) := by decide +kernel
theorem d_SD_init_158 : decode (mcd M_SD_init) 158 = .ok (.aload_n 0, 1) := by decide +kernel
theorem d_SD_init_159 : decode (mcd M_SD_init) 159 = .ok (.new 69, 3) := by decide +kernel
theorem d_SD_init_162 : decode (mcd M_SD_init) 162 = .ok (.dup, 1) := by decide +kernel
theorem d_SD_init_163 : decode (mcd M_SD_init) 163 = .ok (.aload_n 0, 1) := by decide +kernel
theorem d_SD_init_164 : decode (mcd M_SD_init) 164 = .ok (.getfield 31, 3) := by decide +kernel
theorem d_SD_init_167 : decode (mcd M_SD_init) 167 = .ok (.aload_n 1, 1) := by decide +kernel
theorem d_SD_init_168 : decode (mcd M_SD_init) 168 = .ok (.invokespecial 71, 3) := by decide +kernel
theorem d_SD_init_171 : decode (mcd M_SD_init) 171 = .ok (.putfield 72, 3) := by decide +kernel
theorem d_SD_init_174 : decode (mcd M_SD_init) 174 = .ok (.return_, 1) := by decide +kernel
theorem d_SD_allInputsAreThere_0 : decode (mcd M_SD_allInputsAreThere) 0 = .ok (.iconst 0, 1) := by decide +kernel
theorem d_SD_allInputsAreThere_1 : decode (mcd M_SD_allInputsAreThere) 1 = .ok (.istore_n 1, 1) := by decide +kernel
theorem d_SD_allInputsAreThere_2 : decode (mcd M_SD_allInputsAreThere) 2 = .ok (.iload_n 1, 1) := by decide +kernel
theorem d_SD_allInputsAreThere_3 : decode (mcd M_SD_allInputsAreThere) 3 = .ok (.aload_n 0, 1) := by decide +kernel
theorem d_SD_allInputsAreThere_4 : decode (mcd M_SD_allInputsAreThere) 4 = .ok (.getfield 18, 3) := by decide +kernel
theorem d_SD_allInputsAreThere_7 : decode (mcd M_SD_allInputsAreThere) 7 = .ok (.invokevirtual 84, 3) := by decide +kernel
theorem d_SD_allInputsAreThere_10 : decode (mcd M_SD_allInputsAreThere) 10 = .ok (.if_icmp .ge 42, 3) := by decide +kernel
theorem d_SD_allInputsAreThere_13 : decode (mcd M_SD_allInputsAreThere) 13 = .ok (.aload_n 0, 1) := by decide +kernel
theorem d_SD_allInputsAreThere_14 : decode (mcd M_SD_allInputsAreThere) 14 = .ok (.getfield 18, 3) := by decide +kernel
theorem d_SD_allInputsAreThere_17 : decode (mcd M_SD_allInputsAreThere) 17 = .ok (.iload_n 1, 1) := by decide +kernel
theorem d_SD_allInputsAreThere_18 : decode (mcd M_SD_allInputsAreThere) 18 = .ok (.invokevirtual 195, 3) := by decide +kernel
theorem d_SD_allInputsAreThere_21 : decode (mcd M_SD_allInputsAreThere) 21 = .ok (.istore_n 2, 1) := by decide +kernel
theorem d_SD_allInputsAreThere_22 : decode (mcd M_SD_allInputsAreThere) 22 = .ok (.iload_n 2, 1) := by decide +kernel
theorem d_SD_allInputsAreThere_23 : decode (mcd M_SD_allInputsAreThere) 23 = .ok (.ifCond .lt 23, 3) := by decide +kernel
theorem d_SD_allInputsAreThere_26 : decode (mcd M_SD_allInputsAreThere) 26 = .ok (.iload_n 2, 1) := by decide +kernel
theorem d_SD_allInputsAreThere_27 : decode (mcd M_SD_allInputsAreThere) 27 = .ok (.bipush 8, 2) := by decide +kernel
theorem d_SD_allInputsAreThere_29 : decode (mcd M_SD_allInputsAreThere) 29 = .ok (.if_icmp .ge 17, 3) := by decide +kernel
theorem d_SD_allInputsAreThere_32 : decode (mcd M_SD_allInputsAreThere) 32 = .ok (.aload_n 0, 1) := by decide +kernel
theorem d_SD_allInputsAreThere_33 : decode (mcd M_SD_allInputsAreThere) 33 = .ok (.getfield 21, 3) := by decide +kernel
theorem d_SD_allInputsAreThere_36 : decode (mcd M_SD_allInputsAreThere) 36 = .ok (.iload_n 2, 1) := by decide +kernel
theorem d_SD_allInputsAreThere_37 : decode (mcd M_SD_allInputsAreThere) 37 = .ok (.aaload, 1) := by decide +kernel
theorem d_SD_allInputsAreThere_38 : decode (mcd M_SD_allInputsAreThere) 38 = .ok (.invokevirtual 142, 3) := by decide +kernel
theorem d_SD_allInputsAreThere_41 : decode (mcd M_SD_allInputsAreThere) 41 = .ok (.ifCond .eq 5, 3) := by decide +kernel
theorem d_SD_allInputsAreThere_44 : decode (mcd M_SD_allInputsAreThere) 44 = .ok (.iconst 0, 1) := by decide +kernel
theorem d_SD_allInputsAreThere_45 : decode (mcd M_SD_allInputsAreThere) 45 = .ok (.ireturn, 1) := by decide +kernel
theorem d_SD_allInputsAreThere_46 : decode (mcd M_SD_allInputsAreThere) 46 = .ok (.iinc 1 1, 3) := by decide +kernel
theorem d_SD_allInputsAreThere_49 : decode (mcd M_SD_allInputsAreThere) 49 = .ok (.goto (-47), 3) := by decide +kernel
theorem d_SD_allInputsAreThere_52 : decode (mcd M_SD_allInputsAreThere) 52 = .ok (.iconst 1, 1) := by decide +kernel
theorem d_SD_allInputsAreThere_53 : decode (mcd M_SD_allInputsAreThere) 53 = .ok (.ireturn, 1) := by decide +kernel
theorem d_SD_body_0 : decode (mcd M_SD_body) 0 = .ok (.aload_n 0, 1) := by decide +kernel
theorem d_SD_body_1 : decode (mcd M_SD_body) 1 = .ok (.getfield 40, 3) := by decide +kernel
theorem d_SD_body_4 : decode (mcd M_SD_body) 4 = .ok (.iload_n 1, 1) := by decide +kernel
theorem d_SD_body_5 : decode (mcd M_SD_body) 5 = .ok (.invokevirtual 104, 3) := by decide +kernel
theorem d_SD_body_8 : decode (mcd M_SD_body) 8 = .ok (.ifCond .ne 13, 3) := by decide +kernel
theorem d_SD_body_11 : decode (mcd M_SD_body) 11 = .ok (.new 108, 3) := by decide +kernel
theorem d_SD_body_14 : decode (mcd M_SD_body) 14 = .ok (.dup, 1) := by decide +kernel
theorem d_SD_body_15 : decode (mcd M_SD_body) 15 = .ok (.ldc 117, 2) := by decide +kernel
theorem d_SD_body_17 : decode (mcd M_SD_body) 17 = .ok (.invokespecial 112, 3) := by decide +kernel
theorem d_SD_body_20 : decode (mcd M_SD_body) 20 = .ok (.athrow, 1) := by decide +kernel
theorem d_SD_body_21 : decode (mcd M_SD_body) 21 = .ok (.aload_n 0, 1) := by decide +kernel
theorem d_SD_body_22 : decode (mcd M_SD_body) 22 = .ok (.getfield 40, 3) := by decide +kernel
theorem d_SD_body_25 : decode (mcd M_SD_body) 25 = .ok (.iload_n 1, 1) := by decide +kernel
theorem d_SD_body_26 : decode (mcd M_SD_body) 26 = .ok (.iload_n 2, 1) := by decide +kernel
theorem d_SD_body_27 : decode (mcd M_SD_body) 27 = .ok (.aload_n 0, 1) := by decide +kernel
theorem d_SD_body_28 : decode (mcd M_SD_body) 28 = .ok (.getfield 14, 3) := by decide +kernel
theorem d_SD_body_31 : decode (mcd M_SD_body) 31 = .ok (.invokevirtual 119, 3) := by decide +kernel
theorem d_SD_body_34 : decode (mcd M_SD_body) 34 = .ok (.ifCond .ne 13, 3) := by decide +kernel
theorem d_SD_body_37 : decode (mcd M_SD_body) 37 = .ok (.new 97, 3) := by decide +kernel
theorem d_SD_body_40 : decode (mcd M_SD_body) 40 = .ok (.dup, 1) := by decide +kernel
theorem d_SD_body_41 : decode (mcd M_SD_body) 41 = .ok (.ldc 123, 2) := by decide +kernel
theorem d_SD_body_43 : decode (mcd M_SD_body) 43 = .ok (.invokespecial 101, 3) := by decide +kernel
theorem d_SD_body_46 : decode (mcd M_SD_body) 46 = .ok (.athrow, 1) := by decide +kernel
theorem d_SD_body_47 : decode (mcd M_SD_body) 47 = .ok (.aload_n 0, 1) := by decide +kernel
theorem d_SD_body_48 : decode (mcd M_SD_body) 48 = .ok (.getfield 40, 3) := by decide +kernel
theorem d_SD_body_51 : decode (mcd M_SD_body) 51 = .ok (.iload_n 1, 1) := by decide +kernel
theorem d_SD_body_52 : decode (mcd M_SD_body) 52 = .ok (.iload_n 2, 1) := by decide +kernel
theorem d_SD_body_53 : decode (mcd M_SD_body) 53 = .ok (.aload_n 0, 1) := by decide +kernel
theorem d_SD_body_54 : decode (mcd M_SD_body) 54 = .ok (.getfield 14, 3) := by decide +kernel
theorem d_SD_body_57 : decode (mcd M_SD_body) 57 = .ok (.invokevirtual 125, 3) := by decide +kernel
theorem d_SD_body_60 : decode (mcd M_SD_body) 60 = .ok (.aload_n 0, 1) := by decide +kernel
theorem d_SD_body_61 : decode (mcd M_SD_body) 61 = .ok (.getfield 14, 3) := by decide +kernel
theorem d_SD_body_64 : decode (mcd M_SD_body) 64 = .ok (.invokevirtual 91, 3) := by decide +kernel
theorem d_SD_body_67 : decode (mcd M_SD_body) 67 = .ok (.aload_n 0, 1) := by decide +kernel
theorem d_SD_body_68 : decode (mcd M_SD_body) 68 = .ok (.getfield 47, 3) := by decide +kernel
theorem d_SD_body_71 : decode (mcd M_SD_body) 71 = .ok (.invokevirtual 95, 3) := by decide +kernel
theorem d_SD_body_74 : decode (mcd M_SD_body) 74 = .ok (.return_, 1) := by decide +kernel
theorem d_SD_drive_0 : decode (mcd M_SD_drive) 0 = .ok (.aload_n 0, 1) := by decide +kernel
theorem d_SD_drive_1 : decode (mcd M_SD_drive) 1 = .ok (.getfield 18, 3) := by decide +kernel
theorem d_SD_drive_4 : decode (mcd M_SD_drive) 4 = .ok (.invokevirtual 142, 3) := by decide +kernel
theorem d_SD_drive_7 : decode (mcd M_SD_drive) 7 = .ok (.ifCond .eq 13, 3) := by decide +kernel
theorem d_SD_drive_10 : decode (mcd M_SD_drive) 10 = .ok (.new 108, 3) := by decide +kernel
theorem d_SD_drive_13 : decode (mcd M_SD_drive) 13 = .ok (.dup, 1) := by decide +kernel
theorem d_SD_drive_14 : decode (mcd M_SD_drive) 14 = .ok (.ldc 146, 2) := by decide +kernel
theorem d_SD_drive_16 : decode (mcd M_SD_drive) 16 = .ok (.invokespecial 112, 3) := by decide +kernel
theorem d_SD_drive_19 : decode (mcd M_SD_drive) 19 = .ok (.athrow, 1) := by decide +kernel
theorem d_SD_drive_20 : decode (mcd M_SD_drive) 20 = .ok (.aload_n 0, 1) := by decide +kernel
theorem d_SD_drive_21 : decode (mcd M_SD_drive) 21 = .ok (.getfield 56, 3) := by decide +kernel
theorem d_SD_drive_24 : decode (mcd M_SD_drive) 24 = .ok (.aload_n 0, 1) := by decide +kernel
theorem d_SD_drive_25 : decode (mcd M_SD_drive) 25 = .ok (.getfield 18, 3) := by decide +kernel
theorem d_SD_drive_28 : decode (mcd M_SD_drive) 28 = .ok (.invokevirtual 148, 3) := by decide +kernel
theorem d_SD_drive_31 : decode (mcd M_SD_drive) 31 = .ok (.iconst 0, 1) := by decide +kernel
theorem d_SD_drive_32 : decode (mcd M_SD_drive) 32 = .ok (.istore_n 1, 1) := by decide +kernel
theorem d_SD_drive_33 : decode (mcd M_SD_drive) 33 = .ok (.iload_n 1, 1) := by decide +kernel
theorem d_SD_drive_34 : decode (mcd M_SD_drive) 34 = .ok (.bipush 48, 2) := by decide +kernel
theorem d_SD_drive_36 : decode (mcd M_SD_drive) 36 = .ok (.if_icmp .ge 28, 3) := by decide +kernel
theorem d_SD_drive_39 : decode (mcd M_SD_drive) 39 = .ok (.iload_n 1, 1) := by decide +kernel
theorem d_SD_drive_40 : decode (mcd M_SD_drive) 40 = .ok (.aload_n 0, 1) := by decide +kernel
theorem d_SD_drive_41 : decode (mcd M_SD_drive) 41 = .ok (.getfield 47, 3) := by decide +kernel
theorem d_SD_drive_44 : decode (mcd M_SD_drive) 44 = .ok (.invokevirtual 151, 3) := by decide +kernel
theorem d_SD_drive_47 : decode (mcd M_SD_drive) 47 = .ok (.if_icmp .ge 17, 3) := by decide +kernel
theorem d_SD_drive_50 : decode (mcd M_SD_drive) 50 = .ok (.aload_n 0, 1) := by decide +kernel
theorem d_SD_drive_51 : decode (mcd M_SD_drive) 51 = .ok (.getfield 56, 3) := by decide +kernel
theorem d_SD_drive_54 : decode (mcd M_SD_drive) 54 = .ok (.iload_n 1, 1) := by decide +kernel
theorem d_SD_drive_55 : decode (mcd M_SD_drive) 55 = .ok (.invokevirtual 154, 3) := by decide +kernel
theorem d_SD_drive_58 : decode (mcd M_SD_drive) 58 = .ok (.iinc 1 1, 3) := by decide +kernel
theorem d_SD_drive_61 : decode (mcd M_SD_drive) 61 = .ok (.goto (-28), 3) := by decide +kernel
theorem d_SD_drive_64 : decode (mcd M_SD_drive) 64 = .ok (.aload_n 0, 1) := by decide +kernel
theorem d_SD_drive_65 : decode (mcd M_SD_drive) 65 = .ok (.getfield 47, 3) := by decide +kernel
theorem d_SD_drive_68 : decode (mcd M_SD_drive) 68 = .ok (.invokevirtual 157, 3) := by decide +kernel
theorem d_SD_drive_71 : decode (mcd M_SD_drive) 71 = .ok (.ifCond .ne 13, 3) := by decide +kernel
theorem d_SD_drive_74 : decode (mcd M_SD_drive) 74 = .ok (.aload_n 0, 1) := by decide +kernel
theorem d_SD_drive_75 : decode (mcd M_SD_drive) 75 = .ok (.getfield 65, 3) := by decide +kernel
theorem d_SD_drive_78 : decode (mcd M_SD_drive) 78 = .ok (.invokevirtual 160, 3) := by decide +kernel
theorem d_SD_drive_81 : decode (mcd M_SD_drive) 81 = .ok (.ifCond .ne 20, 3) := by decide +kernel
theorem d_SD_drive_84 : decode (mcd M_SD_drive) 84 = .ok (.aload_n 0, 1) := by decide +kernel
theorem d_SD_drive_85 : decode (mcd M_SD_drive) 85 = .ok (.getfield 47, 3) := by decide +kernel
theorem d_SD_drive_88 : decode (mcd M_SD_drive) 88 = .ok (.invokevirtual 95, 3) := by decide +kernel
theorem d_SD_drive_91 : decode (mcd M_SD_drive) 91 = .ok (.new 163, 3) := by decide +kernel
theorem d_SD_drive_94 : decode (mcd M_SD_drive) 94 = .ok (.dup, 1) := by decide +kernel
theorem d_SD_drive_95 : decode (mcd M_SD_drive) 95 = .ok (.ldc 165, 2) := by decide +kernel
theorem d_SD_drive_97 : decode (mcd M_SD_drive) 97 = .ok (.invokespecial 167, 3) := by decide +kernel
theorem d_SD_drive_100 : decode (mcd M_SD_drive) 100 = .ok (.athrow, 1) := by decide +kernel
theorem d_SD_drive_101 : decode (mcd M_SD_drive) 101 = .ok (.aload_n 0, 1) := by decide +kernel
theorem d_SD_drive_102 : decode (mcd M_SD_drive) 102 = .ok (.getfield 47, 3) := by decide +kernel
theorem d_SD_drive_105 : decode (mcd M_SD_drive) 105 = .ok (.invokevirtual 151, 3) := by decide +kernel
theorem d_SD_drive_108 : decode (mcd M_SD_drive) 108 = .ok (.ireturn, 1) := by decide +kernel
theorem d_SD_forget_0 : decode (mcd M_SD_forget) 0 = .ok (.aload_n 0, 1) := by decide +kernel
theorem d_SD_forget_1 : decode (mcd M_SD_forget) 1 = .ok (.getfield 14, 3) := by decide +kernel
theorem d_SD_forget_4 : decode (mcd M_SD_forget) 4 = .ok (.invokevirtual 91, 3) := by decide +kernel
theorem d_SD_forget_7 : decode (mcd M_SD_forget) 7 = .ok (.aload_n 0, 1) := by decide +kernel
theorem d_SD_forget_8 : decode (mcd M_SD_forget) 8 = .ok (.getfield 18, 3) := by decide +kernel
theorem d_SD_forget_11 : decode (mcd M_SD_forget) 11 = .ok (.invokevirtual 91, 3) := by decide +kernel
theorem d_SD_forget_14 : decode (mcd M_SD_forget) 14 = .ok (.iconst 0, 1) := by decide +kernel
theorem d_SD_forget_15 : decode (mcd M_SD_forget) 15 = .ok (.istore_n 1, 1) := by decide +kernel
theorem d_SD_forget_16 : decode (mcd M_SD_forget) 16 = .ok (.iload_n 1, 1) := by decide +kernel
theorem d_SD_forget_17 : decode (mcd M_SD_forget) 17 = .ok (.bipush 8, 2) := by decide +kernel
theorem d_SD_forget_19 : decode (mcd M_SD_forget) 19 = .ok (.if_icmp .ge 18, 3) := by decide +kernel
theorem d_SD_forget_22 : decode (mcd M_SD_forget) 22 = .ok (.aload_n 0, 1) := by decide +kernel
theorem d_SD_forget_23 : decode (mcd M_SD_forget) 23 = .ok (.getfield 21, 3) := by decide +kernel
theorem d_SD_forget_26 : decode (mcd M_SD_forget) 26 = .ok (.iload_n 1, 1) := by decide +kernel
theorem d_SD_forget_27 : decode (mcd M_SD_forget) 27 = .ok (.aaload, 1) := by decide +kernel
theorem d_SD_forget_28 : decode (mcd M_SD_forget) 28 = .ok (.invokevirtual 91, 3) := by decide +kernel
theorem d_SD_forget_31 : decode (mcd M_SD_forget) 31 = .ok (.iinc 1 1, 3) := by decide +kernel
theorem d_SD_forget_34 : decode (mcd M_SD_forget) 34 = .ok (.goto (-18), 3) := by decide +kernel
theorem d_SD_forget_37 : decode (mcd M_SD_forget) 37 = .ok (.aload_n 0, 1) := by decide +kernel
theorem d_SD_forget_38 : decode (mcd M_SD_forget) 38 = .ok (.getfield 40, 3) := by decide +kernel
theorem d_SD_forget_41 : decode (mcd M_SD_forget) 41 = .ok (.invokevirtual 94, 3) := by decide +kernel
theorem d_SD_forget_44 : decode (mcd M_SD_forget) 44 = .ok (.aload_n 0, 1) := by decide +kernel
theorem d_SD_forget_45 : decode (mcd M_SD_forget) 45 = .ok (.getfield 47, 3) := by decide +kernel
theorem d_SD_forget_48 : decode (mcd M_SD_forget) 48 = .ok (.invokevirtual 95, 3) := by decide +kernel
theorem d_SD_forget_51 : decode (mcd M_SD_forget) 51 = .ok (.aload_n 0, 1) := by decide +kernel
theorem d_SD_forget_52 : decode (mcd M_SD_forget) 52 = .ok (.getfield 72, 3) := by decide +kernel
theorem d_SD_forget_55 : decode (mcd M_SD_forget) 55 = .ok (.invokevirtual 96, 3) := by decide +kernel
theorem d_SD_forget_58 : decode (mcd M_SD_forget) 58 = .ok (.return_, 1) := by decide +kernel
theorem d_SD_function_0 : decode (mcd M_SD_function) 0 = .ok (.iload_n 1, 1) := by decide +kernel
theorem d_SD_function_1 : decode (mcd M_SD_function) 1 = .ok (.ifCond .lt 19, 3) := by decide +kernel
theorem d_SD_function_4 : decode (mcd M_SD_function) 4 = .ok (.iload_n 1, 1) := by decide +kernel
theorem d_SD_function_5 : decode (mcd M_SD_function) 5 = .ok (.bipush 8, 2) := by decide +kernel
theorem d_SD_function_7 : decode (mcd M_SD_function) 7 = .ok (.if_icmp .ge 13, 3) := by decide +kernel
theorem d_SD_function_10 : decode (mcd M_SD_function) 10 = .ok (.iload_n 2, 1) := by decide +kernel
theorem d_SD_function_11 : decode (mcd M_SD_function) 11 = .ok (.iconst 1, 1) := by decide +kernel
theorem d_SD_function_12 : decode (mcd M_SD_function) 12 = .ok (.if_icmp .lt 8, 3) := by decide +kernel
theorem d_SD_function_15 : decode (mcd M_SD_function) 15 = .ok (.iload_n 2, 1) := by decide +kernel
theorem d_SD_function_16 : decode (mcd M_SD_function) 16 = .ok (.iconst 3, 1) := by decide +kernel
theorem d_SD_function_17 : decode (mcd M_SD_function) 17 = .ok (.if_icmp .le 13, 3) := by decide +kernel
theorem d_SD_function_20 : decode (mcd M_SD_function) 20 = .ok (.new 97, 3) := by decide +kernel
theorem d_SD_function_23 : decode (mcd M_SD_function) 23 = .ok (.dup, 1) := by decide +kernel
theorem d_SD_function_24 : decode (mcd M_SD_function) 24 = .ok (.ldc 99, 2) := by decide +kernel
theorem d_SD_function_26 : decode (mcd M_SD_function) 26 = .ok (.invokespecial 101, 3) := by decide +kernel
theorem d_SD_function_29 : decode (mcd M_SD_function) 29 = .ok (.athrow, 1) := by decide +kernel
theorem d_SD_function_30 : decode (mcd M_SD_function) 30 = .ok (.aload_n 0, 1) := by decide +kernel
theorem d_SD_function_31 : decode (mcd M_SD_function) 31 = .ok (.getfield 40, 3) := by decide +kernel
theorem d_SD_function_34 : decode (mcd M_SD_function) 34 = .ok (.iload_n 1, 1) := by decide +kernel
theorem d_SD_function_35 : decode (mcd M_SD_function) 35 = .ok (.invokevirtual 104, 3) := by decide +kernel
theorem d_SD_function_38 : decode (mcd M_SD_function) 38 = .ok (.ifCond .eq 13, 3) := by decide +kernel
theorem d_SD_function_41 : decode (mcd M_SD_function) 41 = .ok (.new 108, 3) := by decide +kernel
theorem d_SD_function_44 : decode (mcd M_SD_function) 44 = .ok (.dup, 1) := by decide +kernel
theorem d_SD_function_45 : decode (mcd M_SD_function) 45 = .ok (.ldc 110, 2) := by decide +kernel
theorem d_SD_function_47 : decode (mcd M_SD_function) 47 = .ok (.invokespecial 112, 3) := by decide +kernel
theorem d_SD_function_50 : decode (mcd M_SD_function) 50 = .ok (.athrow, 1) := by decide +kernel
theorem d_SD_function_51 : decode (mcd M_SD_function) 51 = .ok (.aload_n 0, 1) := by decide +kernel
theorem d_SD_function_52 : decode (mcd M_SD_function) 52 = .ok (.getfield 40, 3) := by decide +kernel
theorem d_SD_function_55 : decode (mcd M_SD_function) 55 = .ok (.iload_n 1, 1) := by decide +kernel
theorem d_SD_function_56 : decode (mcd M_SD_function) 56 = .ok (.iload_n 2, 1) := by decide +kernel
theorem d_SD_function_57 : decode (mcd M_SD_function) 57 = .ok (.iload_n 3, 1) := by decide +kernel
theorem d_SD_function_58 : decode (mcd M_SD_function) 58 = .ok (.invokevirtual 113, 3) := by decide +kernel
theorem d_SD_function_61 : decode (mcd M_SD_function) 61 = .ok (.aload_n 0, 1) := by decide +kernel
theorem d_SD_function_62 : decode (mcd M_SD_function) 62 = .ok (.getfield 47, 3) := by decide +kernel
theorem d_SD_function_65 : decode (mcd M_SD_function) 65 = .ok (.invokevirtual 95, 3) := by decide +kernel
theorem d_SD_function_68 : decode (mcd M_SD_function) 68 = .ok (.return_, 1) := by decide +kernel
theorem d_SD_goal_0 : decode (mcd M_SD_goal) 0 = .ok (.aload_n 0, 1) := by decide +kernel
theorem d_SD_goal_1 : decode (mcd M_SD_goal) 1 = .ok (.getfield 31, 3) := by decide +kernel
theorem d_SD_goal_4 : decode (mcd M_SD_goal) 4 = .ok (.aload_n 0, 1) := by decide +kernel
theorem d_SD_goal_5 : decode (mcd M_SD_goal) 5 = .ok (.getfield 14, 3) := by decide +kernel
theorem d_SD_goal_8 : decode (mcd M_SD_goal) 8 = .ok (.invokevirtual 129, 3) := by decide +kernel
theorem d_SD_goal_11 : decode (mcd M_SD_goal) 11 = .ok (.ifCond .ne 13, 3) := by decide +kernel
theorem d_SD_goal_14 : decode (mcd M_SD_goal) 14 = .ok (.new 97, 3) := by decide +kernel
theorem d_SD_goal_17 : decode (mcd M_SD_goal) 17 = .ok (.dup, 1) := by decide +kernel
theorem d_SD_goal_18 : decode (mcd M_SD_goal) 18 = .ok (.ldc 133, 2) := by decide +kernel
theorem d_SD_goal_20 : decode (mcd M_SD_goal) 20 = .ok (.invokespecial 101, 3) := by decide +kernel
theorem d_SD_goal_23 : decode (mcd M_SD_goal) 23 = .ok (.athrow, 1) := by decide +kernel
theorem d_SD_goal_24 : decode (mcd M_SD_goal) 24 = .ok (.aload_n 0, 1) := by decide +kernel
theorem d_SD_goal_25 : decode (mcd M_SD_goal) 25 = .ok (.getfield 18, 3) := by decide +kernel
theorem d_SD_goal_28 : decode (mcd M_SD_goal) 28 = .ok (.aload_n 0, 1) := by decide +kernel
theorem d_SD_goal_29 : decode (mcd M_SD_goal) 29 = .ok (.getfield 14, 3) := by decide +kernel
theorem d_SD_goal_32 : decode (mcd M_SD_goal) 32 = .ok (.invokevirtual 135, 3) := by decide +kernel
theorem d_SD_goal_35 : decode (mcd M_SD_goal) 35 = .ok (.aload_n 0, 1) := by decide +kernel
theorem d_SD_goal_36 : decode (mcd M_SD_goal) 36 = .ok (.getfield 14, 3) := by decide +kernel
theorem d_SD_goal_39 : decode (mcd M_SD_goal) 39 = .ok (.invokevirtual 91, 3) := by decide +kernel
theorem d_SD_goal_42 : decode (mcd M_SD_goal) 42 = .ok (.aload_n 0, 1) := by decide +kernel
theorem d_SD_goal_43 : decode (mcd M_SD_goal) 43 = .ok (.getfield 47, 3) := by decide +kernel
theorem d_SD_goal_46 : decode (mcd M_SD_goal) 46 = .ok (.invokevirtual 95, 3) := by decide +kernel
theorem d_SD_goal_49 : decode (mcd M_SD_goal) 49 = .ok (.return_, 1) := by decide +kernel
theorem d_SD_input_0 : decode (mcd M_SD_input) 0 = .ok (.iload_n 1, 1) := by decide +kernel
theorem d_SD_input_1 : decode (mcd M_SD_input) 1 = .ok (.ifCond .lt 23, 3) := by decide +kernel
theorem d_SD_input_4 : decode (mcd M_SD_input) 4 = .ok (.iload_n 1, 1) := by decide +kernel
theorem d_SD_input_5 : decode (mcd M_SD_input) 5 = .ok (.bipush 8, 2) := by decide +kernel
theorem d_SD_input_7 : decode (mcd M_SD_input) 7 = .ok (.if_icmp .ge 17, 3) := by decide +kernel
theorem d_SD_input_10 : decode (mcd M_SD_input) 10 = .ok (.aload_n 0, 1) := by decide +kernel
theorem d_SD_input_11 : decode (mcd M_SD_input) 11 = .ok (.getfield 31, 3) := by decide +kernel
theorem d_SD_input_14 : decode (mcd M_SD_input) 14 = .ok (.aload_n 0, 1) := by decide +kernel
theorem d_SD_input_15 : decode (mcd M_SD_input) 15 = .ok (.getfield 14, 3) := by decide +kernel
theorem d_SD_input_18 : decode (mcd M_SD_input) 18 = .ok (.invokevirtual 139, 3) := by decide +kernel
theorem d_SD_input_21 : decode (mcd M_SD_input) 21 = .ok (.ifCond .ne 5, 3) := by decide +kernel
theorem d_SD_input_24 : decode (mcd M_SD_input) 24 = .ok (.iconst 0, 1) := by decide +kernel
theorem d_SD_input_25 : decode (mcd M_SD_input) 25 = .ok (.ireturn, 1) := by decide +kernel
theorem d_SD_input_26 : decode (mcd M_SD_input) 26 = .ok (.aload_n 0, 1) := by decide +kernel
theorem d_SD_input_27 : decode (mcd M_SD_input) 27 = .ok (.getfield 21, 3) := by decide +kernel
theorem d_SD_input_30 : decode (mcd M_SD_input) 30 = .ok (.iload_n 1, 1) := by decide +kernel
theorem d_SD_input_31 : decode (mcd M_SD_input) 31 = .ok (.aaload, 1) := by decide +kernel
theorem d_SD_input_32 : decode (mcd M_SD_input) 32 = .ok (.aload_n 0, 1) := by decide +kernel
theorem d_SD_input_33 : decode (mcd M_SD_input) 33 = .ok (.getfield 14, 3) := by decide +kernel
theorem d_SD_input_36 : decode (mcd M_SD_input) 36 = .ok (.invokevirtual 135, 3) := by decide +kernel
theorem d_SD_input_39 : decode (mcd M_SD_input) 39 = .ok (.aload_n 0, 1) := by decide +kernel
theorem d_SD_input_40 : decode (mcd M_SD_input) 40 = .ok (.getfield 14, 3) := by decide +kernel
theorem d_SD_input_43 : decode (mcd M_SD_input) 43 = .ok (.invokevirtual 91, 3) := by decide +kernel
theorem d_SD_input_46 : decode (mcd M_SD_input) 46 = .ok (.iconst 1, 1) := by decide +kernel
theorem d_SD_input_47 : decode (mcd M_SD_input) 47 = .ok (.ireturn, 1) := by decide +kernel
theorem d_SD_isCall_0 : decode (mcd M_SD_isCall) 0 = .ok (.iload_n 0, 1) := by decide +kernel
theorem d_SD_isCall_1 : decode (mcd M_SD_isCall) 1 = .ok (.sipush 200, 3) := by decide +kernel
theorem d_SD_isCall_4 : decode (mcd M_SD_isCall) 4 = .ok (.if_icmp .lt 7, 3) := by decide +kernel
theorem d_SD_isCall_7 : decode (mcd M_SD_isCall) 7 = .ok (.iconst 1, 1) := by decide +kernel
theorem d_SD_isCall_8 : decode (mcd M_SD_isCall) 8 = .ok (.goto 4, 3) := by decide +kernel
theorem d_SD_isCall_11 : decode (mcd M_SD_isCall) 11 = .ok (.iconst 0, 1) := by decide +kernel
theorem d_SD_isCall_12 : decode (mcd M_SD_isCall) 12 = .ok (.ireturn, 1) := by decide +kernel
theorem d_SD_isConstructor_0 : decode (mcd M_SD_isConstructor) 0 = .ok (.iload_n 0, 1) := by decide +kernel
theorem d_SD_isConstructor_1 : decode (mcd M_SD_isConstructor) 1 = .ok (.bipush 100, 2) := by decide +kernel
theorem d_SD_isConstructor_3 : decode (mcd M_SD_isConstructor) 3 = .ok (.if_icmp .lt 13, 3) := by decide +kernel
theorem d_SD_isConstructor_6 : decode (mcd M_SD_isConstructor) 6 = .ok (.iload_n 0, 1) := by decide +kernel
theorem d_SD_isConstructor_7 : decode (mcd M_SD_isConstructor) 7 = .ok (.bipush 106, 2) := by decide +kernel
theorem d_SD_isConstructor_9 : decode (mcd M_SD_isConstructor) 9 = .ok (.if_icmp .ge 7, 3) := by decide +kernel
theorem d_SD_isConstructor_12 : decode (mcd M_SD_isConstructor) 12 = .ok (.iconst 1, 1) := by decide +kernel
theorem d_SD_isConstructor_13 : decode (mcd M_SD_isConstructor) 13 = .ok (.goto 4, 3) := by decide +kernel
theorem d_SD_isConstructor_16 : decode (mcd M_SD_isConstructor) 16 = .ok (.iconst 0, 1) := by decide +kernel
theorem d_SD_isConstructor_17 : decode (mcd M_SD_isConstructor) 17 = .ok (.ireturn, 1) := by decide +kernel
theorem d_SD_isVariable_0 : decode (mcd M_SD_isVariable) 0 = .ok (.iload_n 0, 1) := by decide +kernel
theorem d_SD_isVariable_1 : decode (mcd M_SD_isVariable) 1 = .ok (.ifCond .lt 13, 3) := by decide +kernel
theorem d_SD_isVariable_4 : decode (mcd M_SD_isVariable) 4 = .ok (.iload_n 0, 1) := by decide +kernel
theorem d_SD_isVariable_5 : decode (mcd M_SD_isVariable) 5 = .ok (.bipush 100, 2) := by decide +kernel
theorem d_SD_isVariable_7 : decode (mcd M_SD_isVariable) 7 = .ok (.if_icmp .ge 7, 3) := by decide +kernel
theorem d_SD_isVariable_10 : decode (mcd M_SD_isVariable) 10 = .ok (.iconst 1, 1) := by decide +kernel
theorem d_SD_isVariable_11 : decode (mcd M_SD_isVariable) 11 = .ok (.goto 4, 3) := by decide +kernel
theorem d_SD_isVariable_14 : decode (mcd M_SD_isVariable) 14 = .ok (.iconst 0, 1) := by decide +kernel
theorem d_SD_isVariable_15 : decode (mcd M_SD_isVariable) 15 = .ok (.ireturn, 1) := by decide +kernel
theorem d_SD_letterAt_0 : decode (mcd M_SD_letterAt) 0 = .ok (.lload_n 0, 1) := by decide +kernel
theorem d_SD_letterAt_1 : decode (mcd M_SD_letterAt) 1 = .ok (.iload_n 2, 1) := by decide +kernel
theorem d_SD_letterAt_2 : decode (mcd M_SD_letterAt) 2 = .ok (.lushr, 1) := by decide +kernel
theorem d_SD_letterAt_3 : decode (mcd M_SD_letterAt) 3 = .ok (.l2i, 1) := by decide +kernel
theorem d_SD_letterAt_4 : decode (mcd M_SD_letterAt) 4 = .ok (.sipush 255, 3) := by decide +kernel
theorem d_SD_letterAt_7 : decode (mcd M_SD_letterAt) 7 = .ok (.iand, 1) := by decide +kernel
theorem d_SD_letterAt_8 : decode (mcd M_SD_letterAt) 8 = .ok (.ireturn, 1) := by decide +kernel
theorem d_SD_node_0 : decode (mcd M_SD_node) 0 = .ok (.aload_n 0, 1) := by decide +kernel
theorem d_SD_node_1 : decode (mcd M_SD_node) 1 = .ok (.getfield 47, 3) := by decide +kernel
theorem d_SD_node_4 : decode (mcd M_SD_node) 4 = .ok (.iload_n 1, 1) := by decide +kernel
theorem d_SD_node_5 : decode (mcd M_SD_node) 5 = .ok (.invokevirtual 168, 3) := by decide +kernel
theorem d_SD_node_8 : decode (mcd M_SD_node) 8 = .ok (.astore_n 3, 1) := by decide +kernel
theorem d_SD_node_9 : decode (mcd M_SD_node) 9 = .ok (.aload_n 3, 1) := by decide +kernel
theorem d_SD_node_10 : decode (mcd M_SD_node) 10 = .ok (.ifnonnull 5, 3) := by decide +kernel
theorem d_SD_node_13 : decode (mcd M_SD_node) 13 = .ok (.iconst (-1), 1) := by decide +kernel
theorem d_SD_node_14 : decode (mcd M_SD_node) 14 = .ok (.ireturn, 1) := by decide +kernel
theorem d_SD_node_15 : decode (mcd M_SD_node) 15 = .ok (.iload_n 2, 1) := by decide +kernel
theorem d_SD_node_16 : decode (mcd M_SD_node) 16 = .ok (.tableswitch 74 0 3 #[32, 37, 56, 61], 32) := by decide +kernel
theorem d_SD_node_48 : decode (mcd M_SD_node) 48 = .ok (.aload_n 3, 1) := by decide +kernel
theorem d_SD_node_49 : decode (mcd M_SD_node) 49 = .ok (.getfield 172, 3) := by decide +kernel
theorem d_SD_node_52 : decode (mcd M_SD_node) 52 = .ok (.ireturn, 1) := by decide +kernel
theorem d_SD_node_53 : decode (mcd M_SD_node) 53 = .ok (.aload_n 3, 1) := by decide +kernel
theorem d_SD_node_54 : decode (mcd M_SD_node) 54 = .ok (.getfield 178, 3) := by decide +kernel
theorem d_SD_node_57 : decode (mcd M_SD_node) 57 = .ok (.ifnonnull 7, 3) := by decide +kernel
theorem d_SD_node_60 : decode (mcd M_SD_node) 60 = .ok (.iconst (-1), 1) := by decide +kernel
theorem d_SD_node_61 : decode (mcd M_SD_node) 61 = .ok (.goto 10, 3) := by decide +kernel
theorem d_SD_node_64 : decode (mcd M_SD_node) 64 = .ok (.aload_n 3, 1) := by decide +kernel
theorem d_SD_node_65 : decode (mcd M_SD_node) 65 = .ok (.getfield 178, 3) := by decide +kernel
theorem d_SD_node_68 : decode (mcd M_SD_node) 68 = .ok (.getfield 182, 3) := by decide +kernel
theorem d_SD_node_71 : decode (mcd M_SD_node) 71 = .ok (.ireturn, 1) := by decide +kernel
theorem d_SD_node_72 : decode (mcd M_SD_node) 72 = .ok (.aload_n 3, 1) := by decide +kernel
theorem d_SD_node_73 : decode (mcd M_SD_node) 73 = .ok (.getfield 185, 3) := by decide +kernel
theorem d_SD_node_76 : decode (mcd M_SD_node) 76 = .ok (.ireturn, 1) := by decide +kernel
theorem d_SD_node_77 : decode (mcd M_SD_node) 77 = .ok (.aload_n 3, 1) := by decide +kernel
theorem d_SD_node_78 : decode (mcd M_SD_node) 78 = .ok (.getfield 188, 3) := by decide +kernel
theorem d_SD_node_81 : decode (mcd M_SD_node) 81 = .ok (.ifCond .eq 7, 3) := by decide +kernel
theorem d_SD_node_84 : decode (mcd M_SD_node) 84 = .ok (.iconst 1, 1) := by decide +kernel
theorem d_SD_node_85 : decode (mcd M_SD_node) 85 = .ok (.goto 4, 3) := by decide +kernel
theorem d_SD_node_88 : decode (mcd M_SD_node) 88 = .ok (.iconst 0, 1) := by decide +kernel
theorem d_SD_node_89 : decode (mcd M_SD_node) 89 = .ok (.ireturn, 1) := by decide +kernel
theorem d_SD_node_90 : decode (mcd M_SD_node) 90 = .ok (.iconst (-1), 1) := by decide +kernel
theorem d_SD_node_91 : decode (mcd M_SD_node) 91 = .ok (.ireturn, 1) := by decide +kernel
theorem d_SD_partsOfConstructor_0 : decode (mcd M_SD_partsOfConstructor) 0 = .ok (.iload_n 0, 1) := by decide +kernel
theorem d_SD_partsOfConstructor_1 : decode (mcd M_SD_partsOfConstructor) 1 = .ok (.ifCond .lt 17, 3) := by decide +kernel
theorem d_SD_partsOfConstructor_4 : decode (mcd M_SD_partsOfConstructor) 4 = .ok (.iload_n 0, 1) := by decide +kernel
theorem d_SD_partsOfConstructor_5 : decode (mcd M_SD_partsOfConstructor) 5 = .ok (.bipush 6, 2) := by decide +kernel
theorem d_SD_partsOfConstructor_7 : decode (mcd M_SD_partsOfConstructor) 7 = .ok (.if_icmp .ge 11, 3) := by decide +kernel
theorem d_SD_partsOfConstructor_10 : decode (mcd M_SD_partsOfConstructor) 10 = .ok (.getstatic 225, 3) := by decide +kernel
theorem d_SD_partsOfConstructor_13 : decode (mcd M_SD_partsOfConstructor) 13 = .ok (.iload_n 0, 1) := by decide +kernel
theorem d_SD_partsOfConstructor_14 : decode (mcd M_SD_partsOfConstructor) 14 = .ok (.iaload, 1) := by decide +kernel
theorem d_SD_partsOfConstructor_15 : decode (mcd M_SD_partsOfConstructor) 15 = .ok (.goto 4, 3) := by decide +kernel
theorem d_SD_partsOfConstructor_18 : decode (mcd M_SD_partsOfConstructor) 18 = .ok (.iconst 0, 1) := by decide +kernel
theorem d_SD_partsOfConstructor_19 : decode (mcd M_SD_partsOfConstructor) 19 = .ok (.ireturn, 1) := by decide +kernel
theorem d_SD_residual_0 : decode (mcd M_SD_residual) 0 = .ok (.aload_n 0, 1) := by decide +kernel
theorem d_SD_residual_1 : decode (mcd M_SD_residual) 1 = .ok (.getfield 47, 3) := by decide +kernel
theorem d_SD_residual_4 : decode (mcd M_SD_residual) 4 = .ok (.iload_n 1, 1) := by decide +kernel
theorem d_SD_residual_5 : decode (mcd M_SD_residual) 5 = .ok (.invokevirtual 168, 3) := by decide +kernel
theorem d_SD_residual_8 : decode (mcd M_SD_residual) 8 = .ok (.astore_n 3, 1) := by decide +kernel
theorem d_SD_residual_9 : decode (mcd M_SD_residual) 9 = .ok (.aload_n 3, 1) := by decide +kernel
theorem d_SD_residual_10 : decode (mcd M_SD_residual) 10 = .ok (.ifnull 10, 3) := by decide +kernel
theorem d_SD_residual_13 : decode (mcd M_SD_residual) 13 = .ok (.aload_n 3, 1) := by decide +kernel
theorem d_SD_residual_14 : decode (mcd M_SD_residual) 14 = .ok (.getfield 172, 3) := by decide +kernel
theorem d_SD_residual_17 : decode (mcd M_SD_residual) 17 = .ok (.ifCond .ne 5, 3) := by decide +kernel
theorem d_SD_residual_20 : decode (mcd M_SD_residual) 20 = .ok (.iconst (-1), 1) := by decide +kernel
theorem d_SD_residual_21 : decode (mcd M_SD_residual) 21 = .ok (.ireturn, 1) := by decide +kernel
theorem d_SD_residual_22 : decode (mcd M_SD_residual) 22 = .ok (.iload_n 2, 1) := by decide +kernel
theorem d_SD_residual_23 : decode (mcd M_SD_residual) 23 = .ok (.iconst (-1), 1) := by decide +kernel
theorem d_SD_residual_24 : decode (mcd M_SD_residual) 24 = .ok (.if_icmp .ne 13, 3) := by decide +kernel
theorem d_SD_residual_27 : decode (mcd M_SD_residual) 27 = .ok (.aload_n 3, 1) := by decide +kernel
theorem d_SD_residual_28 : decode (mcd M_SD_residual) 28 = .ok (.getfield 198, 3) := by decide +kernel
theorem d_SD_residual_31 : decode (mcd M_SD_residual) 31 = .ok (.invokevirtual 84, 3) := by decide +kernel
theorem d_SD_residual_34 : decode (mcd M_SD_residual) 34 = .ok (.goto 11, 3) := by decide +kernel
theorem d_SD_residual_37 : decode (mcd M_SD_residual) 37 = .ok (.aload_n 3, 1) := by decide +kernel
theorem d_SD_residual_38 : decode (mcd M_SD_residual) 38 = .ok (.getfield 198, 3) := by decide +kernel
theorem d_SD_residual_41 : decode (mcd M_SD_residual) 41 = .ok (.iload_n 2, 1) := by decide +kernel
theorem d_SD_residual_42 : decode (mcd M_SD_residual) 42 = .ok (.invokevirtual 195, 3) := by decide +kernel
theorem d_SD_residual_45 : decode (mcd M_SD_residual) 45 = .ok (.ireturn, 1) := by decide +kernel
theorem d_SD_result_0 : decode (mcd M_SD_result) 0 = .ok (.aload_n 0, 1) := by decide +kernel
theorem d_SD_result_1 : decode (mcd M_SD_result) 1 = .ok (.getfield 72, 3) := by decide +kernel
theorem d_SD_result_4 : decode (mcd M_SD_result) 4 = .ok (.iload_n 1, 1) := by decide +kernel
theorem d_SD_result_5 : decode (mcd M_SD_result) 5 = .ok (.invokevirtual 219, 3) := by decide +kernel
theorem d_SD_result_8 : decode (mcd M_SD_result) 8 = .ok (.ireturn, 1) := by decide +kernel
theorem d_SD_run_0 : decode (mcd M_SD_run) 0 = .ok (.iload_n 2, 1) := by decide +kernel
theorem d_SD_run_1 : decode (mcd M_SD_run) 1 = .ok (.iconst 1, 1) := by decide +kernel
theorem d_SD_run_2 : decode (mcd M_SD_run) 2 = .ok (.if_icmp .lt 10, 3) := by decide +kernel
theorem d_SD_run_5 : decode (mcd M_SD_run) 5 = .ok (.iload_n 2, 1) := by decide +kernel
theorem d_SD_run_6 : decode (mcd M_SD_run) 6 = .ok (.sipush 500, 3) := by decide +kernel
theorem d_SD_run_9 : decode (mcd M_SD_run) 9 = .ok (.if_icmp .le 13, 3) := by decide +kernel
theorem d_SD_run_12 : decode (mcd M_SD_run) 12 = .ok (.new 97, 3) := by decide +kernel
theorem d_SD_run_15 : decode (mcd M_SD_run) 15 = .ok (.dup, 1) := by decide +kernel
theorem d_SD_run_16 : decode (mcd M_SD_run) 16 = .ok (.ldc 201, 2) := by decide +kernel
theorem d_SD_run_18 : decode (mcd M_SD_run) 18 = .ok (.invokespecial 101, 3) := by decide +kernel
theorem d_SD_run_21 : decode (mcd M_SD_run) 21 = .ok (.athrow, 1) := by decide +kernel
theorem d_SD_run_22 : decode (mcd M_SD_run) 22 = .ok (.iload_n 1, 1) := by decide +kernel
theorem d_SD_run_23 : decode (mcd M_SD_run) 23 = .ok (.ifCond .eq 13, 3) := by decide +kernel
theorem d_SD_run_26 : decode (mcd M_SD_run) 26 = .ok (.aload_n 0, 1) := by decide +kernel
theorem d_SD_run_27 : decode (mcd M_SD_run) 27 = .ok (.getfield 65, 3) := by decide +kernel
theorem d_SD_run_30 : decode (mcd M_SD_run) 30 = .ok (.invokevirtual 203, 3) := by decide +kernel
theorem d_SD_run_33 : decode (mcd M_SD_run) 33 = .ok (.goto 7, 3) := by decide +kernel
theorem d_SD_run_36 : decode (mcd M_SD_run) 36 = .ok (.aload_n 0, 1) := by decide +kernel
theorem d_SD_run_37 : decode (mcd M_SD_run) 37 = .ok (.getfield 18, 3) := by decide +kernel
theorem d_SD_run_40 : decode (mcd M_SD_run) 40 = .ok (.astore_n 3, 1) := by decide +kernel
theorem d_SD_run_41 : decode (mcd M_SD_run) 41 = .ok (.aload_n 3, 1) := by decide +kernel
theorem d_SD_run_42 : decode (mcd M_SD_run) 42 = .ok (.ifnull 20, 3) := by decide +kernel
theorem d_SD_run_45 : decode (mcd M_SD_run) 45 = .ok (.aload_n 0, 1) := by decide +kernel
theorem d_SD_run_46 : decode (mcd M_SD_run) 46 = .ok (.getfield 18, 3) := by decide +kernel
theorem d_SD_run_49 : decode (mcd M_SD_run) 49 = .ok (.invokevirtual 142, 3) := by decide +kernel
theorem d_SD_run_52 : decode (mcd M_SD_run) 52 = .ok (.ifCond .ne 10, 3) := by decide +kernel
theorem d_SD_run_55 : decode (mcd M_SD_run) 55 = .ok (.aload_n 0, 1) := by decide +kernel
theorem d_SD_run_56 : decode (mcd M_SD_run) 56 = .ok (.invokevirtual 207, 3) := by decide +kernel
theorem d_SD_run_59 : decode (mcd M_SD_run) 59 = .ok (.ifCond .ne 13, 3) := by decide +kernel
theorem d_SD_run_62 : decode (mcd M_SD_run) 62 = .ok (.new 108, 3) := by decide +kernel
theorem d_SD_run_65 : decode (mcd M_SD_run) 65 = .ok (.dup, 1) := by decide +kernel
theorem d_SD_run_66 : decode (mcd M_SD_run) 66 = .ok (.ldc 210, 2) := by decide +kernel
theorem d_SD_run_68 : decode (mcd M_SD_run) 68 = .ok (.invokespecial 112, 3) := by decide +kernel
theorem d_SD_run_71 : decode (mcd M_SD_run) 71 = .ok (.athrow, 1) := by decide +kernel
theorem d_SD_run_72 : decode (mcd M_SD_run) 72 = .ok (.aload_n 0, 1) := by decide +kernel
theorem d_SD_run_73 : decode (mcd M_SD_run) 73 = .ok (.getfield 72, 3) := by decide +kernel
theorem d_SD_run_76 : decode (mcd M_SD_run) 76 = .ok (.aload_n 3, 1) := by decide +kernel
theorem d_SD_run_77 : decode (mcd M_SD_run) 77 = .ok (.aload_n 0, 1) := by decide +kernel
theorem d_SD_run_78 : decode (mcd M_SD_run) 78 = .ok (.getfield 21, 3) := by decide +kernel
theorem d_SD_run_81 : decode (mcd M_SD_run) 81 = .ok (.invokevirtual 212, 3) := by decide +kernel
theorem d_SD_run_84 : decode (mcd M_SD_run) 84 = .ok (.iload_n 1, 1) := by decide +kernel
theorem d_SD_run_85 : decode (mcd M_SD_run) 85 = .ok (.ifCond .eq 18, 3) := by decide +kernel
theorem d_SD_run_88 : decode (mcd M_SD_run) 88 = .ok (.aload_n 0, 1) := by decide +kernel
theorem d_SD_run_89 : decode (mcd M_SD_run) 89 = .ok (.getfield 72, 3) := by decide +kernel
theorem d_SD_run_92 : decode (mcd M_SD_run) 92 = .ok (.aload_n 0, 1) := by decide +kernel
theorem d_SD_run_93 : decode (mcd M_SD_run) 93 = .ok (.getfield 65, 3) := by decide +kernel
theorem d_SD_run_96 : decode (mcd M_SD_run) 96 = .ok (.iload_n 2, 1) := by decide +kernel
theorem d_SD_run_97 : decode (mcd M_SD_run) 97 = .ok (.invokevirtual 215, 3) := by decide +kernel
theorem d_SD_run_100 : decode (mcd M_SD_run) 100 = .ok (.goto 15, 3) := by decide +kernel
theorem d_SD_run_103 : decode (mcd M_SD_run) 103 = .ok (.aload_n 0, 1) := by decide +kernel
theorem d_SD_run_104 : decode (mcd M_SD_run) 104 = .ok (.getfield 72, 3) := by decide +kernel
theorem d_SD_run_107 : decode (mcd M_SD_run) 107 = .ok (.aload_n 0, 1) := by decide +kernel
theorem d_SD_run_108 : decode (mcd M_SD_run) 108 = .ok (.getfield 40, 3) := by decide +kernel
theorem d_SD_run_111 : decode (mcd M_SD_run) 111 = .ok (.iload_n 2, 1) := by decide +kernel
theorem d_SD_run_112 : decode (mcd M_SD_run) 112 = .ok (.invokevirtual 215, 3) := by decide +kernel
theorem d_SD_run_115 : decode (mcd M_SD_run) 115 = .ok (.ireturn, 1) := by decide +kernel
theorem d_SD_signOf_0 : decode (mcd M_SD_signOf) 0 = .ok (.iload_n 0, 1) := by decide +kernel
theorem d_SD_signOf_1 : decode (mcd M_SD_signOf) 1 = .ok (.bipush 97, 2) := by decide +kernel
theorem d_SD_signOf_3 : decode (mcd M_SD_signOf) 3 = .ok (.if_icmp .lt 14, 3) := by decide +kernel
theorem d_SD_signOf_6 : decode (mcd M_SD_signOf) 6 = .ok (.iload_n 0, 1) := by decide +kernel
theorem d_SD_signOf_7 : decode (mcd M_SD_signOf) 7 = .ok (.bipush 104, 2) := by decide +kernel
theorem d_SD_signOf_9 : decode (mcd M_SD_signOf) 9 = .ok (.if_icmp .gt 8, 3) := by decide +kernel
theorem d_SD_signOf_12 : decode (mcd M_SD_signOf) 12 = .ok (.iload_n 0, 1) := by decide +kernel
theorem d_SD_signOf_13 : decode (mcd M_SD_signOf) 13 = .ok (.bipush 97, 2) := by decide +kernel
theorem d_SD_signOf_15 : decode (mcd M_SD_signOf) 15 = .ok (.isub, 1) := by decide +kernel
theorem d_SD_signOf_16 : decode (mcd M_SD_signOf) 16 = .ok (.ireturn, 1) := by decide +kernel
theorem d_SD_signOf_17 : decode (mcd M_SD_signOf) 17 = .ok (.iload_n 0, 1) := by decide +kernel
theorem d_SD_signOf_18 : decode (mcd M_SD_signOf) 18 = .ok (.bipush 75, 2) := by decide +kernel
theorem d_SD_signOf_20 : decode (mcd M_SD_signOf) 20 = .ok (.if_icmp .lt 17, 3) := by decide +kernel
theorem d_SD_signOf_23 : decode (mcd M_SD_signOf) 23 = .ok (.iload_n 0, 1) := by decide +kernel
theorem d_SD_signOf_24 : decode (mcd M_SD_signOf) 24 = .ok (.bipush 80, 2) := by decide +kernel
theorem d_SD_signOf_26 : decode (mcd M_SD_signOf) 26 = .ok (.if_icmp .gt 11, 3) := by decide +kernel
theorem d_SD_signOf_29 : decode (mcd M_SD_signOf) 29 = .ok (.bipush 100, 2) := by decide +kernel
theorem d_SD_signOf_31 : decode (mcd M_SD_signOf) 31 = .ok (.iload_n 0, 1) := by decide +kernel
theorem d_SD_signOf_32 : decode (mcd M_SD_signOf) 32 = .ok (.iadd, 1) := by decide +kernel
theorem d_SD_signOf_33 : decode (mcd M_SD_signOf) 33 = .ok (.bipush 75, 2) := by decide +kernel
theorem d_SD_signOf_35 : decode (mcd M_SD_signOf) 35 = .ok (.isub, 1) := by decide +kernel
theorem d_SD_signOf_36 : decode (mcd M_SD_signOf) 36 = .ok (.ireturn, 1) := by decide +kernel
theorem d_SD_signOf_37 : decode (mcd M_SD_signOf) 37 = .ok (.iload_n 0, 1) := by decide +kernel
theorem d_SD_signOf_38 : decode (mcd M_SD_signOf) 38 = .ok (.bipush 48, 2) := by decide +kernel
theorem d_SD_signOf_40 : decode (mcd M_SD_signOf) 40 = .ok (.if_icmp .lt 18, 3) := by decide +kernel
theorem d_SD_signOf_43 : decode (mcd M_SD_signOf) 43 = .ok (.iload_n 0, 1) := by decide +kernel
theorem d_SD_signOf_44 : decode (mcd M_SD_signOf) 44 = .ok (.bipush 55, 2) := by decide +kernel
theorem d_SD_signOf_46 : decode (mcd M_SD_signOf) 46 = .ok (.if_icmp .gt 12, 3) := by decide +kernel
theorem d_SD_signOf_49 : decode (mcd M_SD_signOf) 49 = .ok (.sipush 200, 3) := by decide +kernel
theorem d_SD_signOf_52 : decode (mcd M_SD_signOf) 52 = .ok (.iload_n 0, 1) := by decide +kernel
theorem d_SD_signOf_53 : decode (mcd M_SD_signOf) 53 = .ok (.iadd, 1) := by decide +kernel
theorem d_SD_signOf_54 : decode (mcd M_SD_signOf) 54 = .ok (.bipush 48, 2) := by decide +kernel
theorem d_SD_signOf_56 : decode (mcd M_SD_signOf) 56 = .ok (.isub, 1) := by decide +kernel
theorem d_SD_signOf_57 : decode (mcd M_SD_signOf) 57 = .ok (.ireturn, 1) := by decide +kernel
theorem d_SD_signOf_58 : decode (mcd M_SD_signOf) 58 = .ok (.iconst (-1), 1) := by decide +kernel
theorem d_SD_signOf_59 : decode (mcd M_SD_signOf) 59 = .ok (.ireturn, 1) := by decide +kernel
theorem d_SD_steps_0 : decode (mcd M_SD_steps) 0 = .ok (.aload_n 0, 1) := by decide +kernel
theorem d_SD_steps_1 : decode (mcd M_SD_steps) 1 = .ok (.getfield 72, 3) := by decide +kernel
theorem d_SD_steps_4 : decode (mcd M_SD_steps) 4 = .ok (.invokevirtual 222, 3) := by decide +kernel
theorem d_SD_steps_7 : decode (mcd M_SD_steps) 7 = .ok (.ireturn, 1) := by decide +kernel
theorem d_SD_term_0 : decode (mcd M_SD_term) 0 = .ok (.aload_n 0, 1) := by decide +kernel
theorem d_SD_term_1 : decode (mcd M_SD_term) 1 = .ok (.getfield 47, 3) := by decide +kernel
theorem d_SD_term_4 : decode (mcd M_SD_term) 4 = .ok (.iload_n 1, 1) := by decide +kernel
theorem d_SD_term_5 : decode (mcd M_SD_term) 5 = .ok (.invokevirtual 168, 3) := by decide +kernel
theorem d_SD_term_8 : decode (mcd M_SD_term) 8 = .ok (.astore_n 3, 1) := by decide +kernel
theorem d_SD_term_9 : decode (mcd M_SD_term) 9 = .ok (.aload_n 3, 1) := by decide +kernel
theorem d_SD_term_10 : decode (mcd M_SD_term) 10 = .ok (.ifnonnull 5, 3) := by decide +kernel
theorem d_SD_term_13 : decode (mcd M_SD_term) 13 = .ok (.iconst (-1), 1) := by decide +kernel
theorem d_SD_term_14 : decode (mcd M_SD_term) 14 = .ok (.ireturn, 1) := by decide +kernel
theorem d_SD_term_15 : decode (mcd M_SD_term) 15 = .ok (.iload_n 2, 1) := by decide +kernel
theorem d_SD_term_16 : decode (mcd M_SD_term) 16 = .ok (.iconst (-1), 1) := by decide +kernel
theorem d_SD_term_17 : decode (mcd M_SD_term) 17 = .ok (.if_icmp .ne 13, 3) := by decide +kernel
theorem d_SD_term_20 : decode (mcd M_SD_term) 20 = .ok (.aload_n 3, 1) := by decide +kernel
theorem d_SD_term_21 : decode (mcd M_SD_term) 21 = .ok (.getfield 192, 3) := by decide +kernel
theorem d_SD_term_24 : decode (mcd M_SD_term) 24 = .ok (.invokevirtual 84, 3) := by decide +kernel
theorem d_SD_term_27 : decode (mcd M_SD_term) 27 = .ok (.goto 11, 3) := by decide +kernel
theorem d_SD_term_30 : decode (mcd M_SD_term) 30 = .ok (.aload_n 3, 1) := by decide +kernel
theorem d_SD_term_31 : decode (mcd M_SD_term) 31 = .ok (.getfield 192, 3) := by decide +kernel
theorem d_SD_term_34 : decode (mcd M_SD_term) 34 = .ok (.iload_n 2, 1) := by decide +kernel
theorem d_SD_term_35 : decode (mcd M_SD_term) 35 = .ok (.invokevirtual 195, 3) := by decide +kernel
theorem d_SD_term_38 : decode (mcd M_SD_term) 38 = .ok (.ireturn, 1) := by decide +kernel
theorem d_SD_type_0 : decode (mcd M_SD_type) 0 = .ok (.iconst 0, 1) := by decide +kernel
theorem d_SD_type_1 : decode (mcd M_SD_type) 1 = .ok (.istore_n 3, 1) := by decide +kernel
theorem d_SD_type_2 : decode (mcd M_SD_type) 2 = .ok (.bipush 56, 2) := by decide +kernel
theorem d_SD_type_4 : decode (mcd M_SD_type) 4 = .ok (.istore 4, 2) := by decide +kernel
theorem d_SD_type_6 : decode (mcd M_SD_type) 6 = .ok (.iload 4, 2) := by decide +kernel
theorem d_SD_type_8 : decode (mcd M_SD_type) 8 = .ok (.ifCond .lt 36, 3) := by decide +kernel
theorem d_SD_type_11 : decode (mcd M_SD_type) 11 = .ok (.lload_n 1, 1) := by decide +kernel
theorem d_SD_type_12 : decode (mcd M_SD_type) 12 = .ok (.iload 4, 2) := by decide +kernel
theorem d_SD_type_14 : decode (mcd M_SD_type) 14 = .ok (.invokestatic 76, 3) := by decide +kernel
theorem d_SD_type_17 : decode (mcd M_SD_type) 17 = .ok (.istore 5, 2) := by decide +kernel
theorem d_SD_type_19 : decode (mcd M_SD_type) 19 = .ok (.iload 5, 2) := by decide +kernel
theorem d_SD_type_21 : decode (mcd M_SD_type) 21 = .ok (.ifCond .eq 17, 3) := by decide +kernel
theorem d_SD_type_24 : decode (mcd M_SD_type) 24 = .ok (.iload 5, 2) := by decide +kernel
theorem d_SD_type_26 : decode (mcd M_SD_type) 26 = .ok (.invokestatic 80, 3) := by decide +kernel
theorem d_SD_type_29 : decode (mcd M_SD_type) 29 = .ok (.iconst (-1), 1) := by decide +kernel
theorem d_SD_type_30 : decode (mcd M_SD_type) 30 = .ok (.if_icmp .ne 5, 3) := by decide +kernel
theorem d_SD_type_33 : decode (mcd M_SD_type) 33 = .ok (.iconst 0, 1) := by decide +kernel
theorem d_SD_type_34 : decode (mcd M_SD_type) 34 = .ok (.ireturn, 1) := by decide +kernel
theorem d_SD_type_35 : decode (mcd M_SD_type) 35 = .ok (.iinc 3 1, 3) := by decide +kernel
theorem d_SD_type_38 : decode (mcd M_SD_type) 38 = .ok (.iinc 4 (-8), 3) := by decide +kernel
theorem d_SD_type_41 : decode (mcd M_SD_type) 41 = .ok (.goto (-35), 3) := by decide +kernel
theorem d_SD_type_44 : decode (mcd M_SD_type) 44 = .ok (.aload_n 0, 1) := by decide +kernel
theorem d_SD_type_45 : decode (mcd M_SD_type) 45 = .ok (.getfield 14, 3) := by decide +kernel
theorem d_SD_type_48 : decode (mcd M_SD_type) 48 = .ok (.invokevirtual 84, 3) := by decide +kernel
theorem d_SD_type_51 : decode (mcd M_SD_type) 51 = .ok (.iload_n 3, 1) := by decide +kernel
theorem d_SD_type_52 : decode (mcd M_SD_type) 52 = .ok (.iadd, 1) := by decide +kernel
theorem d_SD_type_53 : decode (mcd M_SD_type) 53 = .ok (.bipush 24, 2) := by decide +kernel
theorem d_SD_type_55 : decode (mcd M_SD_type) 55 = .ok (.if_icmp .le 5, 3) := by decide +kernel
theorem d_SD_type_58 : decode (mcd M_SD_type) 58 = .ok (.iconst 0, 1) := by decide +kernel
theorem d_SD_type_59 : decode (mcd M_SD_type) 59 = .ok (.ireturn, 1) := by decide +kernel
theorem d_SD_type_60 : decode (mcd M_SD_type) 60 = .ok (.bipush 56, 2) := by decide +kernel
theorem d_SD_type_62 : decode (mcd M_SD_type) 62 = .ok (.istore 4, 2) := by decide +kernel
theorem d_SD_type_64 : decode (mcd M_SD_type) 64 = .ok (.iload 4, 2) := by decide +kernel
theorem d_SD_type_66 : decode (mcd M_SD_type) 66 = .ok (.ifCond .lt 34, 3) := by decide +kernel
theorem d_SD_type_69 : decode (mcd M_SD_type) 69 = .ok (.lload_n 1, 1) := by decide +kernel
theorem d_SD_type_70 : decode (mcd M_SD_type) 70 = .ok (.iload 4, 2) := by decide +kernel
theorem d_SD_type_72 : decode (mcd M_SD_type) 72 = .ok (.invokestatic 76, 3) := by decide +kernel
theorem d_SD_type_75 : decode (mcd M_SD_type) 75 = .ok (.istore 5, 2) := by decide +kernel
theorem d_SD_type_77 : decode (mcd M_SD_type) 77 = .ok (.iload 5, 2) := by decide +kernel
theorem d_SD_type_79 : decode (mcd M_SD_type) 79 = .ok (.ifCond .eq 15, 3) := by decide +kernel
theorem d_SD_type_82 : decode (mcd M_SD_type) 82 = .ok (.aload_n 0, 1) := by decide +kernel
theorem d_SD_type_83 : decode (mcd M_SD_type) 83 = .ok (.getfield 14, 3) := by decide +kernel
theorem d_SD_type_86 : decode (mcd M_SD_type) 86 = .ok (.iload 5, 2) := by decide +kernel
theorem d_SD_type_88 : decode (mcd M_SD_type) 88 = .ok (.invokestatic 80, 3) := by decide +kernel
theorem d_SD_type_91 : decode (mcd M_SD_type) 91 = .ok (.invokevirtual 88, 3) := by decide +kernel
theorem d_SD_type_94 : decode (mcd M_SD_type) 94 = .ok (.iinc 4 (-8), 3) := by decide +kernel
theorem d_SD_type_97 : decode (mcd M_SD_type) 97 = .ok (.goto (-33), 3) := by decide +kernel
theorem d_SD_type_100 : decode (mcd M_SD_type) 100 = .ok (.iconst 1, 1) := by decide +kernel
theorem d_SD_type_101 : decode (mcd M_SD_type) 101 = .ok (.ireturn, 1) := by decide +kernel
theorem d_SD_wipe_0 : decode (mcd M_SD_wipe) 0 = .ok (.aload_n 0, 1) := by decide +kernel
theorem d_SD_wipe_1 : decode (mcd M_SD_wipe) 1 = .ok (.getfield 14, 3) := by decide +kernel
theorem d_SD_wipe_4 : decode (mcd M_SD_wipe) 4 = .ok (.invokevirtual 91, 3) := by decide +kernel
theorem d_SD_wipe_7 : decode (mcd M_SD_wipe) 7 = .ok (.return_, 1) := by decide +kernel
