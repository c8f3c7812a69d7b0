theorem d_Mo_run_114 : decode (mcd M_Mo_run) 114 = .ok (.aload_n 0, 1) := by decide +kernel
theorem d_Mo_run_115 : decode (mcd M_Mo_run) 115 = .ok (.iconst 3, 1) := by decide +kernel
theorem d_Mo_run_116 : decode (mcd M_Mo_run) 116 = .ok (.putfield 110, 3) := by decide +kernel
theorem d_Mo_run_119 : decode (mcd M_Mo_run) 119 = .ok (.goto 67, 3) := by decide +kernel
theorem d_Mo_run_122 : decode (mcd M_Mo_run) 122 = .ok (.iload 4, 2) := by decide +kernel
theorem d_Mo_run_124 : decode (mcd M_Mo_run) 124 = .ok (.iconst (-1), 1) := by decide +kernel
theorem d_Mo_run_125 : decode (mcd M_Mo_run) 125 = .ok (.if_icmp .ne 11, 3) := by decide +kernel
theorem d_Mo_run_128 : decode (mcd M_Mo_run) 128 = .ok (.aload_n 0, 1) := by decide +kernel
theorem d_Mo_run_129 : decode (mcd M_Mo_run) 129 = .ok (.iconst 0, 1) := by decide +kernel
theorem d_Mo_run_130 : decode (mcd M_Mo_run) 130 = .ok (.putfield 110, 3) := by decide +kernel
theorem d_Mo_run_133 : decode (mcd M_Mo_run) 133 = .ok (.goto 53, 3) := by decide +kernel
theorem d_Mo_run_136 : decode (mcd M_Mo_run) 136 = .ok (.aload_n 0, 1) := by decide +kernel
theorem d_Mo_run_137 : decode (mcd M_Mo_run) 137 = .ok (.iload 4, 2) := by decide +kernel
theorem d_Mo_run_139 : decode (mcd M_Mo_run) 139 = .ok (.invokevirtual 171, 3) := by decide +kernel
theorem d_Mo_run_142 : decode (mcd M_Mo_run) 142 = .ok (.iconst (-1), 1) := by decide +kernel
theorem d_Mo_run_143 : decode (mcd M_Mo_run) 143 = .ok (.if_icmp .ne 11, 3) := by decide +kernel
theorem d_Mo_run_146 : decode (mcd M_Mo_run) 146 = .ok (.aload_n 0, 1) := by decide +kernel
theorem d_Mo_run_147 : decode (mcd M_Mo_run) 147 = .ok (.iconst 1, 1) := by decide +kernel
theorem d_Mo_run_148 : decode (mcd M_Mo_run) 148 = .ok (.putfield 110, 3) := by decide +kernel
theorem d_Mo_run_151 : decode (mcd M_Mo_run) 151 = .ok (.goto 35, 3) := by decide +kernel
theorem d_Mo_run_154 : decode (mcd M_Mo_run) 154 = .ok (.aload_n 0, 1) := by decide +kernel
theorem d_Mo_run_155 : decode (mcd M_Mo_run) 155 = .ok (.getfield 142, 3) := by decide +kernel
theorem d_Mo_run_158 : decode (mcd M_Mo_run) 158 = .ok (.iload_n 2, 1) := by decide +kernel
theorem d_Mo_run_159 : decode (mcd M_Mo_run) 159 = .ok (.if_icmp .ne 11, 3) := by decide +kernel
theorem d_Mo_run_162 : decode (mcd M_Mo_run) 162 = .ok (.aload_n 0, 1) := by decide +kernel
theorem d_Mo_run_163 : decode (mcd M_Mo_run) 163 = .ok (.iconst 2, 1) := by decide +kernel
theorem d_Mo_run_164 : decode (mcd M_Mo_run) 164 = .ok (.putfield 110, 3) := by decide +kernel
theorem d_Mo_run_167 : decode (mcd M_Mo_run) 167 = .ok (.goto 19, 3) := by decide +kernel
theorem d_Mo_run_170 : decode (mcd M_Mo_run) 170 = .ok (.aload_n 0, 1) := by decide +kernel
theorem d_Mo_run_171 : decode (mcd M_Mo_run) 171 = .ok (.iload 4, 2) := by decide +kernel
theorem d_Mo_run_173 : decode (mcd M_Mo_run) 173 = .ok (.invokevirtual 212, 3) := by decide +kernel
theorem d_Mo_run_176 : decode (mcd M_Mo_run) 176 = .ok (.aload_n 0, 1) := by decide +kernel
theorem d_Mo_run_177 : decode (mcd M_Mo_run) 177 = .ok (.dup, 1) := by decide +kernel
theorem d_Mo_run_178 : decode (mcd M_Mo_run) 178 = .ok (.getfield 142, 3) := by decide +kernel
theorem d_Mo_run_181 : decode (mcd M_Mo_run) 181 = .ok (.iconst 1, 1) := by decide +kernel
theorem d_Mo_run_182 : decode (mcd M_Mo_run) 182 = .ok (.iadd, 1) := by decide +kernel
theorem d_Mo_run_183 : decode (mcd M_Mo_run) 183 = .ok (.putfield 142, 3) := by decide +kernel
theorem d_Mo_run_186 : decode (mcd M_Mo_run) 186 = .ok (.goto (-109), 3) := by decide +kernel
theorem d_Mo_run_189 : decode (mcd M_Mo_run) 189 = .ok (.aload_n 0, 1) := by decide +kernel
theorem d_Mo_run_190 : decode (mcd M_Mo_run) 190 = .ok (.aload_n 0, 1) := by decide +kernel
theorem d_Mo_run_191 : decode (mcd M_Mo_run) 191 = .ok (.getfield 157, 3) := by decide +kernel
theorem d_Mo_run_194 : decode (mcd M_Mo_run) 194 = .ok (.putfield 292, 3) := by decide +kernel
theorem d_Mo_run_197 : decode (mcd M_Mo_run) 197 = .ok (.iconst 0, 1) := by decide +kernel
theorem d_Mo_run_198 : decode (mcd M_Mo_run) 198 = .ok (.istore 4, 2) := by decide +kernel
theorem d_Mo_run_200 : decode (mcd M_Mo_run) 200 = .ok (.iload 4, 2) := by decide +kernel
theorem d_Mo_run_202 : decode (mcd M_Mo_run) 202 = .ok (.aload_n 0, 1) := by decide +kernel
theorem d_Mo_run_203 : decode (mcd M_Mo_run) 203 = .ok (.getfield 157, 3) := by decide +kernel
theorem d_Mo_run_206 : decode (mcd M_Mo_run) 206 = .ok (.if_icmp .ge 33, 3) := by decide +kernel
theorem d_Mo_run_209 : decode (mcd M_Mo_run) 209 = .ok (.aload_n 0, 1) := by decide +kernel
theorem d_Mo_run_210 : decode (mcd M_Mo_run) 210 = .ok (.getfield 110, 3) := by decide +kernel
theorem d_Mo_run_213 : decode (mcd M_Mo_run) 213 = .ok (.ifCond .ne 26, 3) := by decide +kernel
theorem d_Mo_run_216 : decode (mcd M_Mo_run) 216 = .ok (.aload_n 0, 1) := by decide +kernel
theorem d_Mo_run_217 : decode (mcd M_Mo_run) 217 = .ok (.getfield 114, 3) := by decide +kernel
theorem d_Mo_run_220 : decode (mcd M_Mo_run) 220 = .ok (.iload 4, 2) := by decide +kernel
theorem d_Mo_run_222 : decode (mcd M_Mo_run) 222 = .ok (.aload_n 0, 1) := by decide +kernel
theorem d_Mo_run_223 : decode (mcd M_Mo_run) 223 = .ok (.getfield 80, 3) := by decide +kernel
theorem d_Mo_run_226 : decode (mcd M_Mo_run) 226 = .ok (.iload 4, 2) := by decide +kernel
theorem d_Mo_run_228 : decode (mcd M_Mo_run) 228 = .ok (.iaload, 1) := by decide +kernel
theorem d_Mo_run_229 : decode (mcd M_Mo_run) 229 = .ok (.bipush 100, 2) := by decide +kernel
theorem d_Mo_run_231 : decode (mcd M_Mo_run) 231 = .ok (.isub, 1) := by decide +kernel
theorem d_Mo_run_232 : decode (mcd M_Mo_run) 232 = .ok (.iastore, 1) := by decide +kernel
theorem d_Mo_run_233 : decode (mcd M_Mo_run) 233 = .ok (.iinc 4 1, 3) := by decide +kernel
theorem d_Mo_run_236 : decode (mcd M_Mo_run) 236 = .ok (.goto (-36), 3) := by decide +kernel
theorem d_Mo_run_239 : decode (mcd M_Mo_run) 239 = .ok (.aload_n 0, 1) := by decide +kernel
theorem d_Mo_run_240 : decode (mcd M_Mo_run) 240 = .ok (.getfield 110, 3) := by decide +kernel
theorem d_Mo_run_243 : decode (mcd M_Mo_run) 243 = .ok (.ireturn, 1) := by decide +kernel
theorem d_Mo_signOf_0 : decode (mcd M_Mo_signOf) 0 = .ok (.iload_n 0, 1) := by decide +kernel
theorem d_Mo_signOf_1 : decode (mcd M_Mo_signOf) 1 = .ok (.bipush 97, 2) := by decide +kernel
theorem d_Mo_signOf_3 : decode (mcd M_Mo_signOf) 3 = .ok (.if_icmp .lt 14, 3) := by decide +kernel
theorem d_Mo_signOf_6 : decode (mcd M_Mo_signOf) 6 = .ok (.iload_n 0, 1) := by decide +kernel
theorem d_Mo_signOf_7 : decode (mcd M_Mo_signOf) 7 = .ok (.bipush 104, 2) := by decide +kernel
theorem d_Mo_signOf_9 : decode (mcd M_Mo_signOf) 9 = .ok (.if_icmp .gt 8, 3) := by decide +kernel
theorem d_Mo_signOf_12 : decode (mcd M_Mo_signOf) 12 = .ok (.iload_n 0, 1) := by decide +kernel
theorem d_Mo_signOf_13 : decode (mcd M_Mo_signOf) 13 = .ok (.bipush 97, 2) := by decide +kernel
theorem d_Mo_signOf_15 : decode (mcd M_Mo_signOf) 15 = .ok (.isub, 1) := by decide +kernel
theorem d_Mo_signOf_16 : decode (mcd M_Mo_signOf) 16 = .ok (.ireturn, 1) := by decide +kernel
theorem d_Mo_signOf_17 : decode (mcd M_Mo_signOf) 17 = .ok (.iload_n 0, 1) := by decide +kernel
theorem d_Mo_signOf_18 : decode (mcd M_Mo_signOf) 18 = .ok (.bipush 75, 2) := by decide +kernel
theorem d_Mo_signOf_20 : decode (mcd M_Mo_signOf) 20 = .ok (.if_icmp .lt 17, 3) := by decide +kernel
theorem d_Mo_signOf_23 : decode (mcd M_Mo_signOf) 23 = .ok (.iload_n 0, 1) := by decide +kernel
theorem d_Mo_signOf_24 : decode (mcd M_Mo_signOf) 24 = .ok (.bipush 80, 2) := by decide +kernel
theorem d_Mo_signOf_26 : decode (mcd M_Mo_signOf) 26 = .ok (.if_icmp .gt 11, 3) := by decide +kernel
theorem d_Mo_signOf_29 : decode (mcd M_Mo_signOf) 29 = .ok (.bipush 100, 2) := by decide +kernel
theorem d_Mo_signOf_31 : decode (mcd M_Mo_signOf) 31 = .ok (.iload_n 0, 1) := by decide +kernel
theorem d_Mo_signOf_32 : decode (mcd M_Mo_signOf) 32 = .ok (.iadd, 1) := by decide +kernel
theorem d_Mo_signOf_33 : decode (mcd M_Mo_signOf) 33 = .ok (.bipush 75, 2) := by decide +kernel
theorem d_Mo_signOf_35 : decode (mcd M_Mo_signOf) 35 = .ok (.isub, 1) := by decide +kernel
theorem d_Mo_signOf_36 : decode (mcd M_Mo_signOf) 36 = .ok (.ireturn, 1) := by decide +kernel
theorem d_Mo_signOf_37 : decode (mcd M_Mo_signOf) 37 = .ok (.iload_n 0, 1) := by decide +kernel
theorem d_Mo_signOf_38 : decode (mcd M_Mo_signOf) 38 = .ok (.bipush 48, 2) := by decide +kernel
theorem d_Mo_signOf_40 : decode (mcd M_Mo_signOf) 40 = .ok (.if_icmp .lt 20, 3) := by decide +kernel
theorem d_Mo_signOf_43 : decode (mcd M_Mo_signOf) 43 = .ok (.iload_n 0, 1) := by decide +kernel
theorem d_Mo_signOf_44 : decode (mcd M_Mo_signOf) 44 = .ok (.bipush 55, 2) := by decide +kernel
theorem d_Mo_signOf_46 : decode (mcd M_Mo_signOf) 46 = .ok (.if_icmp .gt 14, 3) := by decide +kernel
theorem d_Mo_signOf_49 : decode (mcd M_Mo_signOf) 49 = .ok (.sipush 200, 3) := by decide +kernel
theorem d_Mo_signOf_52 : decode (mcd M_Mo_signOf) 52 = .ok (.iload_n 0, 1) := by decide +kernel
theorem d_Mo_signOf_53 : decode (mcd M_Mo_signOf) 53 = .ok (.iadd, 1) := by decide +kernel
theorem d_Mo_signOf_54 : decode (mcd M_Mo_signOf) 54 = .ok (.bipush 48, 2) := by decide +kernel
theorem d_Mo_signOf_56 : decode (mcd M_Mo_signOf) 56 = .ok (.isub, 1) := by decide +kernel
theorem d_Mo_signOf_57 : decode (mcd M_Mo_signOf) 57 = .ok (.goto 4, 3) := by decide +kernel
theorem d_Mo_signOf_60 : decode (mcd M_Mo_signOf) 60 = .ok (.iconst (-1), 1) := by decide +kernel
theorem d_Mo_signOf_61 : decode (mcd M_Mo_signOf) 61 = .ok (.ireturn, 1) := by decide +kernel
theorem d_Mo_split_0 : decode (mcd M_Mo_split) 0 = .ok (.aload_n 0, 1) := by decide +kernel
theorem d_Mo_split_1 : decode (mcd M_Mo_split) 1 = .ok (.getfield 80, 3) := by decide +kernel
theorem d_Mo_split_4 : decode (mcd M_Mo_split) 4 = .ok (.iload_n 2, 1) := by decide +kernel
theorem d_Mo_split_5 : decode (mcd M_Mo_split) 5 = .ok (.iconst 1, 1) := by decide +kernel
theorem d_Mo_split_6 : decode (mcd M_Mo_split) 6 = .ok (.iadd, 1) := by decide +kernel
theorem d_Mo_split_7 : decode (mcd M_Mo_split) 7 = .ok (.iaload, 1) := by decide +kernel
theorem d_Mo_split_8 : decode (mcd M_Mo_split) 8 = .ok (.istore_n 3, 1) := by decide +kernel
theorem d_Mo_split_9 : decode (mcd M_Mo_split) 9 = .ok (.aload_n 0, 1) := by decide +kernel
theorem d_Mo_split_10 : decode (mcd M_Mo_split) 10 = .ok (.getfield 80, 3) := by decide +kernel
theorem d_Mo_split_13 : decode (mcd M_Mo_split) 13 = .ok (.iload_n 2, 1) := by decide +kernel
theorem d_Mo_split_14 : decode (mcd M_Mo_split) 14 = .ok (.iaload, 1) := by decide +kernel
theorem d_Mo_split_15 : decode (mcd M_Mo_split) 15 = .ok (.sipush 200, 3) := by decide +kernel
theorem d_Mo_split_18 : decode (mcd M_Mo_split) 18 = .ok (.isub, 1) := by decide +kernel
theorem d_Mo_split_19 : decode (mcd M_Mo_split) 19 = .ok (.istore 4, 2) := by decide +kernel
theorem d_Mo_split_21 : decode (mcd M_Mo_split) 21 = .ok (.aload_n 0, 1) := by decide +kernel
theorem d_Mo_split_22 : decode (mcd M_Mo_split) 22 = .ok (.iload_n 1, 1) := by decide +kernel
theorem d_Mo_split_23 : decode (mcd M_Mo_split) 23 = .ok (.iconst 4, 1) := by decide +kernel
theorem d_Mo_split_24 : decode (mcd M_Mo_split) 24 = .ok (.invokevirtual 201, 3) := by decide +kernel
theorem d_Mo_split_27 : decode (mcd M_Mo_split) 27 = .ok (.aload_n 0, 1) := by decide +kernel
theorem d_Mo_split_28 : decode (mcd M_Mo_split) 28 = .ok (.getfield 47, 3) := by decide +kernel
theorem d_Mo_split_31 : decode (mcd M_Mo_split) 31 = .ok (.iload_n 1, 1) := by decide +kernel
theorem d_Mo_split_32 : decode (mcd M_Mo_split) 32 = .ok (.iload_n 3, 1) := by decide +kernel
theorem d_Mo_split_33 : decode (mcd M_Mo_split) 33 = .ok (.iastore, 1) := by decide +kernel
theorem d_Mo_split_34 : decode (mcd M_Mo_split) 34 = .ok (.iconst 0, 1) := by decide +kernel
theorem d_Mo_split_35 : decode (mcd M_Mo_split) 35 = .ok (.istore 5, 2) := by decide +kernel
theorem d_Mo_split_37 : decode (mcd M_Mo_split) 37 = .ok (.iload 5, 2) := by decide +kernel
theorem d_Mo_split_39 : decode (mcd M_Mo_split) 39 = .ok (.bipush 6, 2) := by decide +kernel
theorem d_Mo_split_41 : decode (mcd M_Mo_split) 41 = .ok (.if_icmp .ge 258, 3) := by decide +kernel
theorem d_Mo_split_44 : decode (mcd M_Mo_split) 44 = .ok (.aload_n 0, 1) := by decide +kernel
theorem d_Mo_split_45 : decode (mcd M_Mo_split) 45 = .ok (.getfield 177, 3) := by decide +kernel
theorem d_Mo_split_48 : decode (mcd M_Mo_split) 48 = .ok (.ifCond .ne 251, 3) := by decide +kernel
theorem d_Mo_split_51 : decode (mcd M_Mo_split) 51 = .ok (.aload_n 0, 1) := by decide +kernel
theorem d_Mo_split_52 : decode (mcd M_Mo_split) 52 = .ok (.getfield 23, 3) := by decide +kernel
theorem d_Mo_split_55 : decode (mcd M_Mo_split) 55 = .ok (.bipush 7, 2) := by decide +kernel
theorem d_Mo_split_57 : decode (mcd M_Mo_split) 57 = .ok (.iload 4, 2) := by decide +kernel
theorem d_Mo_split_59 : decode (mcd M_Mo_split) 59 = .ok (.imul, 1) := by decide +kernel
theorem d_Mo_split_60 : decode (mcd M_Mo_split) 60 = .ok (.iload 5, 2) := by decide +kernel
theorem d_Mo_split_62 : decode (mcd M_Mo_split) 62 = .ok (.iadd, 1) := by decide +kernel
theorem d_Mo_split_63 : decode (mcd M_Mo_split) 63 = .ok (.iaload, 1) := by decide +kernel
theorem d_Mo_split_64 : decode (mcd M_Mo_split) 64 = .ok (.ifCond .ne 6, 3) := by decide +kernel
theorem d_Mo_split_67 : decode (mcd M_Mo_split) 67 = .ok (.goto 226, 3) := by decide +kernel
theorem d_Mo_split_70 : decode (mcd M_Mo_split) 70 = .ok (.aload_n 0, 1) := by decide +kernel
theorem d_Mo_split_71 : decode (mcd M_Mo_split) 71 = .ok (.bipush 100, 2) := by decide +kernel
theorem d_Mo_split_73 : decode (mcd M_Mo_split) 73 = .ok (.iload 5, 2) := by decide +kernel
theorem d_Mo_split_75 : decode (mcd M_Mo_split) 75 = .ok (.iadd, 1) := by decide +kernel
theorem d_Mo_split_76 : decode (mcd M_Mo_split) 76 = .ok (.invokestatic 120, 3) := by decide +kernel
theorem d_Mo_split_79 : decode (mcd M_Mo_split) 79 = .ok (.invokevirtual 209, 3) := by decide +kernel
theorem d_Mo_split_82 : decode (mcd M_Mo_split) 82 = .ok (.istore 6, 2) := by decide +kernel
theorem d_Mo_split_84 : decode (mcd M_Mo_split) 84 = .ok (.aload_n 0, 1) := by decide +kernel
theorem d_Mo_split_85 : decode (mcd M_Mo_split) 85 = .ok (.iconst 0, 1) := by decide +kernel
theorem d_Mo_split_86 : decode (mcd M_Mo_split) 86 = .ok (.putfield 157, 3) := by decide +kernel
theorem d_Mo_split_89 : decode (mcd M_Mo_split) 89 = .ok (.bipush 40, 2) := by decide +kernel
theorem d_Mo_split_91 : decode (mcd M_Mo_split) 91 = .ok (.iload_n 1, 1) := by decide +kernel
theorem d_Mo_split_92 : decode (mcd M_Mo_split) 92 = .ok (.imul, 1) := by decide +kernel
theorem d_Mo_split_93 : decode (mcd M_Mo_split) 93 = .ok (.istore 7, 2) := by decide +kernel
theorem d_Mo_split_95 : decode (mcd M_Mo_split) 95 = .ok (.iload 7, 2) := by decide +kernel
theorem d_Mo_split_97 : decode (mcd M_Mo_split) 97 = .ok (.bipush 40, 2) := by decide +kernel
theorem d_Mo_split_99 : decode (mcd M_Mo_split) 99 = .ok (.iload_n 1, 1) := by decide +kernel
theorem d_Mo_split_100 : decode (mcd M_Mo_split) 100 = .ok (.imul, 1) := by decide +kernel
theorem d_Mo_split_101 : decode (mcd M_Mo_split) 101 = .ok (.aload_n 0, 1) := by decide +kernel
theorem d_Mo_split_102 : decode (mcd M_Mo_split) 102 = .ok (.getfield 44, 3) := by decide +kernel
theorem d_Mo_split_105 : decode (mcd M_Mo_split) 105 = .ok (.iload_n 1, 1) := by decide +kernel
theorem d_Mo_split_106 : decode (mcd M_Mo_split) 106 = .ok (.iaload, 1) := by decide +kernel
theorem d_Mo_split_107 : decode (mcd M_Mo_split) 107 = .ok (.iadd, 1) := by decide +kernel
theorem d_Mo_split_108 : decode (mcd M_Mo_split) 108 = .ok (.if_icmp .ge 111, 3) := by decide +kernel
theorem d_Mo_split_111 : decode (mcd M_Mo_split) 111 = .ok (.aload_n 0, 1) := by decide +kernel
theorem d_Mo_split_112 : decode (mcd M_Mo_split) 112 = .ok (.getfield 80, 3) := by decide +kernel
theorem d_Mo_split_115 : decode (mcd M_Mo_split) 115 = .ok (.aload_n 0, 1) := by decide +kernel
theorem d_Mo_split_116 : decode (mcd M_Mo_split) 116 = .ok (.getfield 157, 3) := by decide +kernel
theorem d_Mo_split_119 : decode (mcd M_Mo_split) 119 = .ok (.aload_n 0, 1) := by decide +kernel
theorem d_Mo_split_120 : decode (mcd M_Mo_split) 120 = .ok (.getfield 41, 3) := by decide +kernel
theorem d_Mo_split_123 : decode (mcd M_Mo_split) 123 = .ok (.iload 7, 2) := by decide +kernel
theorem d_Mo_split_125 : decode (mcd M_Mo_split) 125 = .ok (.iaload, 1) := by decide +kernel
theorem d_Mo_split_126 : decode (mcd M_Mo_split) 126 = .ok (.iload_n 3, 1) := by decide +kernel
theorem d_Mo_split_127 : decode (mcd M_Mo_split) 127 = .ok (.if_icmp .ne 11, 3) := by decide +kernel
theorem d_Mo_split_130 : decode (mcd M_Mo_split) 130 = .ok (.bipush 100, 2) := by decide +kernel
theorem d_Mo_split_132 : decode (mcd M_Mo_split) 132 = .ok (.iload 5, 2) := by decide +kernel
theorem d_Mo_split_134 : decode (mcd M_Mo_split) 134 = .ok (.iadd, 1) := by decide +kernel
theorem d_Mo_split_135 : decode (mcd M_Mo_split) 135 = .ok (.goto 10, 3) := by decide +kernel
theorem d_Mo_split_138 : decode (mcd M_Mo_split) 138 = .ok (.aload_n 0, 1) := by decide +kernel
theorem d_Mo_split_139 : decode (mcd M_Mo_split) 139 = .ok (.getfield 41, 3) := by decide +kernel
theorem d_Mo_split_142 : decode (mcd M_Mo_split) 142 = .ok (.iload 7, 2) := by decide +kernel
theorem d_Mo_split_144 : decode (mcd M_Mo_split) 144 = .ok (.iaload, 1) := by decide +kernel
theorem d_Mo_split_145 : decode (mcd M_Mo_split) 145 = .ok (.iastore, 1) := by decide +kernel
theorem d_Mo_split_146 : decode (mcd M_Mo_split) 146 = .ok (.aload_n 0, 1) := by decide +kernel
theorem d_Mo_split_147 : decode (mcd M_Mo_split) 147 = .ok (.dup, 1) := by decide +kernel
theorem d_Mo_split_148 : decode (mcd M_Mo_split) 148 = .ok (.getfield 157, 3) := by decide +kernel
theorem d_Mo_split_151 : decode (mcd M_Mo_split) 151 = .ok (.iconst 1, 1) := by decide +kernel
theorem d_Mo_split_152 : decode (mcd M_Mo_split) 152 = .ok (.iadd, 1) := by decide +kernel
theorem d_Mo_split_153 : decode (mcd M_Mo_split) 153 = .ok (.putfield 157, 3) := by decide +kernel
theorem d_Mo_split_156 : decode (mcd M_Mo_split) 156 = .ok (.iconst 0, 1) := by decide +kernel
theorem d_Mo_split_157 : decode (mcd M_Mo_split) 157 = .ok (.istore 8, 2) := by decide +kernel
theorem d_Mo_split_159 : decode (mcd M_Mo_split) 159 = .ok (.iload 8, 2) := by decide +kernel
theorem d_Mo_split_161 : decode (mcd M_Mo_split) 161 = .ok (.bipush 100, 2) := by decide +kernel
theorem d_Mo_split_163 : decode (mcd M_Mo_split) 163 = .ok (.iload 5, 2) := by decide +kernel
theorem d_Mo_split_165 : decode (mcd M_Mo_split) 165 = .ok (.iadd, 1) := by decide +kernel
theorem d_Mo_split_166 : decode (mcd M_Mo_split) 166 = .ok (.invokestatic 120, 3) := by decide +kernel
theorem d_Mo_split_169 : decode (mcd M_Mo_split) 169 = .ok (.if_icmp .ge 44, 3) := by decide +kernel
theorem d_Mo_split_172 : decode (mcd M_Mo_split) 172 = .ok (.aload_n 0, 1) := by decide +kernel
theorem d_Mo_split_173 : decode (mcd M_Mo_split) 173 = .ok (.getfield 41, 3) := by decide +kernel
theorem d_Mo_split_176 : decode (mcd M_Mo_split) 176 = .ok (.iload 7, 2) := by decide +kernel
theorem d_Mo_split_178 : decode (mcd M_Mo_split) 178 = .ok (.iaload, 1) := by decide +kernel
theorem d_Mo_split_179 : decode (mcd M_Mo_split) 179 = .ok (.iload_n 3, 1) := by decide +kernel
theorem d_Mo_split_180 : decode (mcd M_Mo_split) 180 = .ok (.if_icmp .ne 33, 3) := by decide +kernel
theorem d_Mo_split_183 : decode (mcd M_Mo_split) 183 = .ok (.aload_n 0, 1) := by decide +kernel
theorem d_Mo_split_184 : decode (mcd M_Mo_split) 184 = .ok (.getfield 80, 3) := by decide +kernel
theorem d_Mo_split_187 : decode (mcd M_Mo_split) 187 = .ok (.aload_n 0, 1) := by decide +kernel
theorem d_Mo_split_188 : decode (mcd M_Mo_split) 188 = .ok (.getfield 157, 3) := by decide +kernel
theorem d_Mo_split_191 : decode (mcd M_Mo_split) 191 = .ok (.iload 6, 2) := by decide +kernel
theorem d_Mo_split_193 : decode (mcd M_Mo_split) 193 = .ok (.iload 8, 2) := by decide +kernel
theorem d_Mo_split_195 : decode (mcd M_Mo_split) 195 = .ok (.iadd, 1) := by decide +kernel
theorem d_Mo_split_196 : decode (mcd M_Mo_split) 196 = .ok (.iastore, 1) := by decide +kernel
theorem d_Mo_split_197 : decode (mcd M_Mo_split) 197 = .ok (.aload_n 0, 1) := by decide +kernel
theorem d_Mo_split_198 : decode (mcd M_Mo_split) 198 = .ok (.dup, 1) := by decide +kernel
theorem d_Mo_split_199 : decode (mcd M_Mo_split) 199 = .ok (.getfield 157, 3) := by decide +kernel
theorem d_Mo_split_202 : decode (mcd M_Mo_split) 202 = .ok (.iconst 1, 1) := by decide +kernel
theorem d_Mo_split_203 : decode (mcd M_Mo_split) 203 = .ok (.iadd, 1) := by decide +kernel
theorem d_Mo_split_204 : decode (mcd M_Mo_split) 204 = .ok (.putfield 157, 3) := by decide +kernel
theorem d_Mo_split_207 : decode (mcd M_Mo_split) 207 = .ok (.iinc 8 1, 3) := by decide +kernel
theorem d_Mo_split_210 : decode (mcd M_Mo_split) 210 = .ok (.goto (-51), 3) := by decide +kernel
theorem d_Mo_split_213 : decode (mcd M_Mo_split) 213 = .ok (.iinc 7 1, 3) := by decide +kernel
theorem d_Mo_split_216 : decode (mcd M_Mo_split) 216 = .ok (.goto (-121), 3) := by decide +kernel
theorem d_Mo_split_219 : decode (mcd M_Mo_split) 219 = .ok (.aload_n 0, 1) := by decide +kernel
theorem d_Mo_split_220 : decode (mcd M_Mo_split) 220 = .ok (.getfield 177, 3) := by decide +kernel
theorem d_Mo_split_223 : decode (mcd M_Mo_split) 223 = .ok (.ifCond .eq 4, 3) := by decide +kernel
theorem d_Mo_split_226 : decode (mcd M_Mo_split) 226 = .ok (.return_, 1) := by decide +kernel
theorem d_Mo_split_227 : decode (mcd M_Mo_split) 227 = .ok (.aload_n 0, 1) := by decide +kernel
theorem d_Mo_split_228 : decode (mcd M_Mo_split) 228 = .ok (.iload_n 2, 1) := by decide +kernel
theorem d_Mo_split_229 : decode (mcd M_Mo_split) 229 = .ok (.invokevirtual 212, 3) := by decide +kernel
theorem d_Mo_split_232 : decode (mcd M_Mo_split) 232 = .ok (.aload_n 0, 1) := by decide +kernel
theorem d_Mo_split_233 : decode (mcd M_Mo_split) 233 = .ok (.iload_n 1, 1) := by decide +kernel
theorem d_Mo_split_234 : decode (mcd M_Mo_split) 234 = .ok (.aload_n 0, 1) := by decide +kernel
theorem d_Mo_split_235 : decode (mcd M_Mo_split) 235 = .ok (.getfield 80, 3) := by decide +kernel
theorem d_Mo_split_238 : decode (mcd M_Mo_split) 238 = .ok (.iconst 0, 1) := by decide +kernel
theorem d_Mo_split_239 : decode (mcd M_Mo_split) 239 = .ok (.aload_n 0, 1) := by decide +kernel
theorem d_Mo_split_240 : decode (mcd M_Mo_split) 240 = .ok (.getfield 157, 3) := by decide +kernel
theorem d_Mo_split_243 : decode (mcd M_Mo_split) 243 = .ok (.invokevirtual 205, 3) := by decide +kernel
theorem d_Mo_split_246 : decode (mcd M_Mo_split) 246 = .ok (.aload_n 0, 1) := by decide +kernel
theorem d_Mo_split_247 : decode (mcd M_Mo_split) 247 = .ok (.getfield 177, 3) := by decide +kernel
theorem d_Mo_split_250 : decode (mcd M_Mo_split) 250 = .ok (.ifCond .eq 4, 3) := by decide +kernel
theorem d_Mo_split_253 : decode (mcd M_Mo_split) 253 = .ok (.return_, 1) := by decide +kernel
theorem d_Mo_split_254 : decode (mcd M_Mo_split) 254 = .ok (.aload_n 0, 1) := by decide +kernel
theorem d_Mo_split_255 : decode (mcd M_Mo_split) 255 = .ok (.getfield 59, 3) := by decide +kernel
theorem d_Mo_split_258 : decode (mcd M_Mo_split) 258 = .ok (.aload_n 0, 1) := by decide +kernel
theorem d_Mo_split_259 : decode (mcd M_Mo_split) 259 = .ok (.getfield 180, 3) := by decide +kernel
theorem d_Mo_split_262 : decode (mcd M_Mo_split) 262 = .ok (.iconst 1, 1) := by decide +kernel
theorem d_Mo_split_263 : decode (mcd M_Mo_split) 263 = .ok (.isub, 1) := by decide +kernel
theorem d_Mo_split_264 : decode (mcd M_Mo_split) 264 = .ok (.bipush 100, 2) := by decide +kernel
theorem d_Mo_split_266 : decode (mcd M_Mo_split) 266 = .ok (.iload 5, 2) := by decide +kernel
theorem d_Mo_split_268 : decode (mcd M_Mo_split) 268 = .ok (.iadd, 1) := by decide +kernel
theorem d_Mo_split_269 : decode (mcd M_Mo_split) 269 = .ok (.iastore, 1) := by decide +kernel
theorem d_Mo_split_270 : decode (mcd M_Mo_split) 270 = .ok (.aload_n 0, 1) := by decide +kernel
theorem d_Mo_split_271 : decode (mcd M_Mo_split) 271 = .ok (.getfield 62, 3) := by decide +kernel
theorem d_Mo_split_274 : decode (mcd M_Mo_split) 274 = .ok (.aload_n 0, 1) := by decide +kernel
theorem d_Mo_split_275 : decode (mcd M_Mo_split) 275 = .ok (.getfield 180, 3) := by decide +kernel
theorem d_Mo_split_278 : decode (mcd M_Mo_split) 278 = .ok (.iconst 1, 1) := by decide +kernel
theorem d_Mo_split_279 : decode (mcd M_Mo_split) 279 = .ok (.isub, 1) := by decide +kernel
theorem d_Mo_split_280 : decode (mcd M_Mo_split) 280 = .ok (.iload 6, 2) := by decide +kernel
theorem d_Mo_split_282 : decode (mcd M_Mo_split) 282 = .ok (.iastore, 1) := by decide +kernel
theorem d_Mo_split_283 : decode (mcd M_Mo_split) 283 = .ok (.aload_n 0, 1) := by decide +kernel
theorem d_Mo_split_284 : decode (mcd M_Mo_split) 284 = .ok (.getfield 53, 3) := by decide +kernel
theorem d_Mo_split_287 : decode (mcd M_Mo_split) 287 = .ok (.iload_n 1, 1) := by decide +kernel
theorem d_Mo_split_288 : decode (mcd M_Mo_split) 288 = .ok (.dup2, 1) := by decide +kernel
theorem d_Mo_split_289 : decode (mcd M_Mo_split) 289 = .ok (.iaload, 1) := by decide +kernel
theorem d_Mo_split_290 : decode (mcd M_Mo_split) 290 = .ok (.iconst 1, 1) := by decide +kernel
theorem d_Mo_split_291 : decode (mcd M_Mo_split) 291 = .ok (.iadd, 1) := by decide +kernel
theorem d_Mo_split_292 : decode (mcd M_Mo_split) 292 = .ok (.iastore, 1) := by decide +kernel
theorem d_Mo_split_293 : decode (mcd M_Mo_split) 293 = .ok (.iinc 5 1, 3) := by decide +kernel
theorem d_Mo_split_296 : decode (mcd M_Mo_split) 296 = .ok (.goto (-259), 3) := by decide +kernel
theorem d_Mo_split_299 : decode (mcd M_Mo_split) 299 = .ok (.return_, 1) := by decide +kernel
theorem d_Mo_stand_0 : decode (mcd M_Mo_stand) 0 = .ok (.aload_n 0, 1) := by decide +kernel
theorem d_Mo_stand_1 : decode (mcd M_Mo_stand) 1 = .ok (.getfield 86, 3) := by decide +kernel
theorem d_Mo_stand_4 : decode (mcd M_Mo_stand) 4 = .ok (.iload_n 1, 1) := by decide +kernel
theorem d_Mo_stand_5 : decode (mcd M_Mo_stand) 5 = .ok (.iload_n 2, 1) := by decide +kernel
theorem d_Mo_stand_6 : decode (mcd M_Mo_stand) 6 = .ok (.iastore, 1) := by decide +kernel
theorem d_Mo_stand_7 : decode (mcd M_Mo_stand) 7 = .ok (.aload_n 0, 1) := by decide +kernel
theorem d_Mo_stand_8 : decode (mcd M_Mo_stand) 8 = .ok (.getfield 89, 3) := by decide +kernel
theorem d_Mo_stand_11 : decode (mcd M_Mo_stand) 11 = .ok (.iload_n 1, 1) := by decide +kernel
theorem d_Mo_stand_12 : decode (mcd M_Mo_stand) 12 = .ok (.aload_n 0, 1) := by decide +kernel
theorem d_Mo_stand_13 : decode (mcd M_Mo_stand) 13 = .ok (.aload_n 0, 1) := by decide +kernel
theorem d_Mo_stand_14 : decode (mcd M_Mo_stand) 14 = .ok (.getfield 80, 3) := by decide +kernel
theorem d_Mo_stand_17 : decode (mcd M_Mo_stand) 17 = .ok (.iload_n 2, 1) := by decide +kernel
theorem d_Mo_stand_18 : decode (mcd M_Mo_stand) 18 = .ok (.invokevirtual 164, 3) := by decide +kernel
theorem d_Mo_stand_21 : decode (mcd M_Mo_stand) 21 = .ok (.iastore, 1) := by decide +kernel
theorem d_Mo_stand_22 : decode (mcd M_Mo_stand) 22 = .ok (.aload_n 0, 1) := by decide +kernel
theorem d_Mo_stand_23 : decode (mcd M_Mo_stand) 23 = .ok (.getfield 89, 3) := by decide +kernel
theorem d_Mo_stand_26 : decode (mcd M_Mo_stand) 26 = .ok (.iload_n 1, 1) := by decide +kernel
theorem d_Mo_stand_27 : decode (mcd M_Mo_stand) 27 = .ok (.iaload, 1) := by decide +kernel
theorem d_Mo_stand_28 : decode (mcd M_Mo_stand) 28 = .ok (.ireturn, 1) := by decide +kernel
theorem d_Mo_steps_0 : decode (mcd M_Mo_steps) 0 = .ok (.aload_n 0, 1) := by decide +kernel
theorem d_Mo_steps_1 : decode (mcd M_Mo_steps) 1 = .ok (.iconst 0, 1) := by decide +kernel
theorem d_Mo_steps_2 : decode (mcd M_Mo_steps) 2 = .ok (.putfield 117, 3) := by decide +kernel
theorem d_Mo_steps_5 : decode (mcd M_Mo_steps) 5 = .ok (.aload_n 0, 1) := by decide +kernel
theorem d_Mo_steps_6 : decode (mcd M_Mo_steps) 6 = .ok (.getfield 142, 3) := by decide +kernel
theorem d_Mo_steps_9 : decode (mcd M_Mo_steps) 9 = .ok (.ireturn, 1) := by decide +kernel
theorem d_Mo_takeText_0 : decode (mcd M_Mo_takeText) 0 = .ok (.iconst 0, 1) := by decide +kernel
theorem d_Mo_takeText_1 : decode (mcd M_Mo_takeText) 1 = .ok (.istore_n 3, 1) := by decide +kernel
theorem d_Mo_takeText_2 : decode (mcd M_Mo_takeText) 2 = .ok (.iload_n 3, 1) := by decide +kernel
theorem d_Mo_takeText_3 : decode (mcd M_Mo_takeText) 3 = .ok (.aload_n 0, 1) := by decide +kernel
theorem d_Mo_takeText_4 : decode (mcd M_Mo_takeText) 4 = .ok (.getfield 127, 3) := by decide +kernel
theorem d_Mo_takeText_7 : decode (mcd M_Mo_takeText) 7 = .ok (.if_icmp .ge 20, 3) := by decide +kernel
theorem d_Mo_takeText_10 : decode (mcd M_Mo_takeText) 10 = .ok (.aload_n 1, 1) := by decide +kernel
theorem d_Mo_takeText_11 : decode (mcd M_Mo_takeText) 11 = .ok (.iload_n 2, 1) := by decide +kernel
theorem d_Mo_takeText_12 : decode (mcd M_Mo_takeText) 12 = .ok (.iload_n 3, 1) := by decide +kernel
theorem d_Mo_takeText_13 : decode (mcd M_Mo_takeText) 13 = .ok (.iadd, 1) := by decide +kernel
theorem d_Mo_takeText_14 : decode (mcd M_Mo_takeText) 14 = .ok (.aload_n 0, 1) := by decide +kernel
theorem d_Mo_takeText_15 : decode (mcd M_Mo_takeText) 15 = .ok (.getfield 7, 3) := by decide +kernel
theorem d_Mo_takeText_18 : decode (mcd M_Mo_takeText) 18 = .ok (.iload_n 3, 1) := by decide +kernel
theorem d_Mo_takeText_19 : decode (mcd M_Mo_takeText) 19 = .ok (.iaload, 1) := by decide +kernel
theorem d_Mo_takeText_20 : decode (mcd M_Mo_takeText) 20 = .ok (.iastore, 1) := by decide +kernel
theorem d_Mo_takeText_21 : decode (mcd M_Mo_takeText) 21 = .ok (.iinc 3 1, 3) := by decide +kernel
theorem d_Mo_takeText_24 : decode (mcd M_Mo_takeText) 24 = .ok (.goto (-22), 3) := by decide +kernel
theorem d_Mo_takeText_27 : decode (mcd M_Mo_takeText) 27 = .ok (.aload_n 0, 1) := by decide +kernel
theorem d_Mo_takeText_28 : decode (mcd M_Mo_takeText) 28 = .ok (.getfield 127, 3) := by decide +kernel
theorem d_Mo_takeText_31 : decode (mcd M_Mo_takeText) 31 = .ok (.istore_n 3, 1) := by decide +kernel
theorem d_Mo_takeText_32 : decode (mcd M_Mo_takeText) 32 = .ok (.aload_n 0, 1) := by decide +kernel
theorem d_Mo_takeText_33 : decode (mcd M_Mo_takeText) 33 = .ok (.iconst 0, 1) := by decide +kernel
theorem d_Mo_takeText_34 : decode (mcd M_Mo_takeText) 34 = .ok (.putfield 127, 3) := by decide +kernel
theorem d_Mo_takeText_37 : decode (mcd M_Mo_takeText) 37 = .ok (.iload_n 3, 1) := by decide +kernel
theorem d_Mo_takeText_38 : decode (mcd M_Mo_takeText) 38 = .ok (.ireturn, 1) := by decide +kernel
theorem d_Mo_term_0 : decode (mcd M_Mo_term) 0 = .ok (.aload_n 0, 1) := by decide +kernel
theorem d_Mo_term_1 : decode (mcd M_Mo_term) 1 = .ok (.iconst 0, 1) := by decide +kernel
theorem d_Mo_term_2 : decode (mcd M_Mo_term) 2 = .ok (.putfield 117, 3) := by decide +kernel
theorem d_Mo_term_5 : decode (mcd M_Mo_term) 5 = .ok (.aload_n 0, 1) := by decide +kernel
theorem d_Mo_term_6 : decode (mcd M_Mo_term) 6 = .ok (.iload_n 1, 1) := by decide +kernel
theorem d_Mo_term_7 : decode (mcd M_Mo_term) 7 = .ok (.invokevirtual 281, 3) := by decide +kernel
theorem d_Mo_term_10 : decode (mcd M_Mo_term) 10 = .ok (.ifCond .eq 18, 3) := by decide +kernel
theorem d_Mo_term_13 : decode (mcd M_Mo_term) 13 = .ok (.iload_n 2, 1) := by decide +kernel
theorem d_Mo_term_14 : decode (mcd M_Mo_term) 14 = .ok (.iconst (-1), 1) := by decide +kernel
theorem d_Mo_term_15 : decode (mcd M_Mo_term) 15 = .ok (.if_icmp .lt 13, 3) := by decide +kernel
theorem d_Mo_term_18 : decode (mcd M_Mo_term) 18 = .ok (.iload_n 2, 1) := by decide +kernel
theorem d_Mo_term_19 : decode (mcd M_Mo_term) 19 = .ok (.aload_n 0, 1) := by decide +kernel
theorem d_Mo_term_20 : decode (mcd M_Mo_term) 20 = .ok (.getfield 44, 3) := by decide +kernel
theorem d_Mo_term_23 : decode (mcd M_Mo_term) 23 = .ok (.iload_n 1, 1) := by decide +kernel
theorem d_Mo_term_24 : decode (mcd M_Mo_term) 24 = .ok (.iaload, 1) := by decide +kernel
theorem d_Mo_term_25 : decode (mcd M_Mo_term) 25 = .ok (.if_icmp .lt 5, 3) := by decide +kernel
theorem d_Mo_term_28 : decode (mcd M_Mo_term) 28 = .ok (.iconst (-1), 1) := by decide +kernel
theorem d_Mo_term_29 : decode (mcd M_Mo_term) 29 = .ok (.ireturn, 1) := by decide +kernel
theorem d_Mo_term_30 : decode (mcd M_Mo_term) 30 = .ok (.iload_n 2, 1) := by decide +kernel
theorem d_Mo_term_31 : decode (mcd M_Mo_term) 31 = .ok (.ifCond .ge 12, 3) := by decide +kernel
theorem d_Mo_term_34 : decode (mcd M_Mo_term) 34 = .ok (.aload_n 0, 1) := by decide +kernel
theorem d_Mo_term_35 : decode (mcd M_Mo_term) 35 = .ok (.getfield 44, 3) := by decide +kernel
theorem d_Mo_term_38 : decode (mcd M_Mo_term) 38 = .ok (.iload_n 1, 1) := by decide +kernel
theorem d_Mo_term_39 : decode (mcd M_Mo_term) 39 = .ok (.iaload, 1) := by decide +kernel
theorem d_Mo_term_40 : decode (mcd M_Mo_term) 40 = .ok (.goto 14, 3) := by decide +kernel
theorem d_Mo_term_43 : decode (mcd M_Mo_term) 43 = .ok (.aload_n 0, 1) := by decide +kernel
theorem d_Mo_term_44 : decode (mcd M_Mo_term) 44 = .ok (.getfield 41, 3) := by decide +kernel
theorem d_Mo_term_47 : decode (mcd M_Mo_term) 47 = .ok (.bipush 40, 2) := by decide +kernel
theorem d_Mo_term_49 : decode (mcd M_Mo_term) 49 = .ok (.iload_n 1, 1) := by decide +kernel
theorem d_Mo_term_50 : decode (mcd M_Mo_term) 50 = .ok (.imul, 1) := by decide +kernel
theorem d_Mo_term_51 : decode (mcd M_Mo_term) 51 = .ok (.iload_n 2, 1) := by decide +kernel
theorem d_Mo_term_52 : decode (mcd M_Mo_term) 52 = .ok (.iadd, 1) := by decide +kernel
theorem d_Mo_term_53 : decode (mcd M_Mo_term) 53 = .ok (.iaload, 1) := by decide +kernel
theorem d_Mo_term_54 : decode (mcd M_Mo_term) 54 = .ok (.ireturn, 1) := by decide +kernel
theorem d_Mo_throwing_0 : decode (mcd M_Mo_throwing) 0 = .ok (.aload_n 0, 1) := by decide +kernel
theorem d_Mo_throwing_1 : decode (mcd M_Mo_throwing) 1 = .ok (.iload_n 1, 1) := by decide +kernel
theorem d_Mo_throwing_2 : decode (mcd M_Mo_throwing) 2 = .ok (.ifCond .eq 7, 3) := by decide +kernel
theorem d_Mo_throwing_5 : decode (mcd M_Mo_throwing) 5 = .ok (.iconst 1, 1) := by decide +kernel
theorem d_Mo_throwing_6 : decode (mcd M_Mo_throwing) 6 = .ok (.goto 12, 3) := by decide +kernel
theorem d_Mo_throwing_9 : decode (mcd M_Mo_throwing) 9 = .ok (.iload_n 2, 1) := by decide +kernel
theorem d_Mo_throwing_10 : decode (mcd M_Mo_throwing) 10 = .ok (.ifCond .eq 7, 3) := by decide +kernel
theorem d_Mo_throwing_13 : decode (mcd M_Mo_throwing) 13 = .ok (.iconst 2, 1) := by decide +kernel
theorem d_Mo_throwing_14 : decode (mcd M_Mo_throwing) 14 = .ok (.goto 4, 3) := by decide +kernel
theorem d_Mo_throwing_17 : decode (mcd M_Mo_throwing) 17 = .ok (.iconst 0, 1) := by decide +kernel
theorem d_Mo_throwing_18 : decode (mcd M_Mo_throwing) 18 = .ok (.putfield 117, 3) := by decide +kernel
theorem d_Mo_throwing_21 : decode (mcd M_Mo_throwing) 21 = .ok (.aload_n 0, 1) := by decide +kernel
theorem d_Mo_throwing_22 : decode (mcd M_Mo_throwing) 22 = .ok (.getfield 117, 3) := by decide +kernel
theorem d_Mo_throwing_25 : decode (mcd M_Mo_throwing) 25 = .ok (.ifCond .le 7, 3) := by decide +kernel
theorem d_Mo_throwing_28 : decode (mcd M_Mo_throwing) 28 = .ok (.iconst 1, 1) := by decide +kernel
theorem d_Mo_throwing_29 : decode (mcd M_Mo_throwing) 29 = .ok (.goto 4, 3) := by decide +kernel
theorem d_Mo_throwing_32 : decode (mcd M_Mo_throwing) 32 = .ok (.iconst 0, 1) := by decide +kernel
theorem d_Mo_throwing_33 : decode (mcd M_Mo_throwing) 33 = .ok (.ireturn, 1) := by decide +kernel
theorem d_Mo_thrown_0 : decode (mcd M_Mo_thrown) 0 = .ok (.aload_n 0, 1) := by decide +kernel
theorem d_Mo_thrown_1 : decode (mcd M_Mo_thrown) 1 = .ok (.getfield 117, 3) := by decide +kernel
theorem d_Mo_thrown_4 : decode (mcd M_Mo_thrown) 4 = .ok (.ireturn, 1) := by decide +kernel
theorem d_Mo_turn_0 : decode (mcd M_Mo_turn) 0 = .ok (.aload_n 0, 1) := by decide +kernel
theorem d_Mo_turn_1 : decode (mcd M_Mo_turn) 1 = .ok (.getfield 41, 3) := by decide +kernel
theorem d_Mo_turn_4 : decode (mcd M_Mo_turn) 4 = .ok (.bipush 40, 2) := by decide +kernel
theorem d_Mo_turn_6 : decode (mcd M_Mo_turn) 6 = .ok (.iload_n 1, 1) := by decide +kernel
theorem d_Mo_turn_7 : decode (mcd M_Mo_turn) 7 = .ok (.imul, 1) := by decide +kernel
theorem d_Mo_turn_8 : decode (mcd M_Mo_turn) 8 = .ok (.iaload, 1) := by decide +kernel
theorem d_Mo_turn_9 : decode (mcd M_Mo_turn) 9 = .ok (.istore_n 2, 1) := by decide +kernel
theorem d_Mo_turn_10 : decode (mcd M_Mo_turn) 10 = .ok (.iload_n 2, 1) := by decide +kernel
theorem d_Mo_turn_11 : decode (mcd M_Mo_turn) 11 = .ok (.bipush 100, 2) := by decide +kernel
theorem d_Mo_turn_13 : decode (mcd M_Mo_turn) 13 = .ok (.if_icmp .lt 17, 3) := by decide +kernel
theorem d_Mo_turn_16 : decode (mcd M_Mo_turn) 16 = .ok (.iload_n 2, 1) := by decide +kernel
theorem d_Mo_turn_17 : decode (mcd M_Mo_turn) 17 = .ok (.sipush 200, 3) := by decide +kernel
theorem d_Mo_turn_20 : decode (mcd M_Mo_turn) 20 = .ok (.if_icmp .ge 17, 3) := by decide +kernel
theorem d_Mo_turn_23 : decode (mcd M_Mo_turn) 23 = .ok (.iload_n 2, 1) := by decide +kernel
theorem d_Mo_turn_24 : decode (mcd M_Mo_turn) 24 = .ok (.invokestatic 120, 3) := by decide +kernel
theorem d_Mo_turn_27 : decode (mcd M_Mo_turn) 27 = .ok (.ifCond .ne 10, 3) := by decide +kernel
theorem d_Mo_turn_30 : decode (mcd M_Mo_turn) 30 = .ok (.aload_n 0, 1) := by decide +kernel
theorem d_Mo_turn_31 : decode (mcd M_Mo_turn) 31 = .ok (.iload_n 1, 1) := by decide +kernel
theorem d_Mo_turn_32 : decode (mcd M_Mo_turn) 32 = .ok (.iconst 1, 1) := by decide +kernel
theorem d_Mo_turn_33 : decode (mcd M_Mo_turn) 33 = .ok (.invokevirtual 201, 3) := by decide +kernel
theorem d_Mo_turn_36 : decode (mcd M_Mo_turn) 36 = .ok (.return_, 1) := by decide +kernel
theorem d_Mo_turn_37 : decode (mcd M_Mo_turn) 37 = .ok (.iload_n 2, 1) := by decide +kernel
theorem d_Mo_turn_38 : decode (mcd M_Mo_turn) 38 = .ok (.sipush 200, 3) := by decide +kernel
theorem d_Mo_turn_41 : decode (mcd M_Mo_turn) 41 = .ok (.if_icmp .ge 9, 3) := by decide +kernel
theorem d_Mo_turn_44 : decode (mcd M_Mo_turn) 44 = .ok (.aload_n 0, 1) := by decide +kernel
theorem d_Mo_turn_45 : decode (mcd M_Mo_turn) 45 = .ok (.iload_n 1, 1) := by decide +kernel
theorem d_Mo_turn_46 : decode (mcd M_Mo_turn) 46 = .ok (.invokevirtual 237, 3) := by decide +kernel
theorem d_Mo_turn_49 : decode (mcd M_Mo_turn) 49 = .ok (.return_, 1) := by decide +kernel
theorem d_Mo_turn_50 : decode (mcd M_Mo_turn) 50 = .ok (.aload_n 0, 1) := by decide +kernel
theorem d_Mo_turn_51 : decode (mcd M_Mo_turn) 51 = .ok (.iload_n 1, 1) := by decide +kernel
theorem d_Mo_turn_52 : decode (mcd M_Mo_turn) 52 = .ok (.invokevirtual 240, 3) := by decide +kernel
theorem d_Mo_turn_55 : decode (mcd M_Mo_turn) 55 = .ok (.aload_n 0, 1) := by decide +kernel
theorem d_Mo_turn_56 : decode (mcd M_Mo_turn) 56 = .ok (.invokevirtual 243, 3) := by decide +kernel
theorem d_Mo_turn_59 : decode (mcd M_Mo_turn) 59 = .ok (.istore_n 3, 1) := by decide +kernel
theorem d_Mo_turn_60 : decode (mcd M_Mo_turn) 60 = .ok (.aload_n 0, 1) := by decide +kernel
theorem d_Mo_turn_61 : decode (mcd M_Mo_turn) 61 = .ok (.iload_n 3, 1) := by decide +kernel
theorem d_Mo_turn_62 : decode (mcd M_Mo_turn) 62 = .ok (.invokevirtual 171, 3) := by decide +kernel
theorem d_Mo_turn_65 : decode (mcd M_Mo_turn) 65 = .ok (.iconst (-1), 1) := by decide +kernel
theorem d_Mo_turn_66 : decode (mcd M_Mo_turn) 66 = .ok (.if_icmp .eq 7, 3) := by decide +kernel
theorem d_Mo_turn_69 : decode (mcd M_Mo_turn) 69 = .ok (.iconst 1, 1) := by decide +kernel
theorem d_Mo_turn_70 : decode (mcd M_Mo_turn) 70 = .ok (.goto 4, 3) := by decide +kernel
theorem d_Mo_turn_73 : decode (mcd M_Mo_turn) 73 = .ok (.iconst 0, 1) := by decide +kernel
theorem d_Mo_turn_74 : decode (mcd M_Mo_turn) 74 = .ok (.istore 4, 2) := by decide +kernel
theorem d_Mo_turn_76 : decode (mcd M_Mo_turn) 76 = .ok (.iload 4, 2) := by decide +kernel
theorem d_Mo_turn_78 : decode (mcd M_Mo_turn) 78 = .ok (.ifCond .ne 36, 3) := by decide +kernel
theorem d_Mo_turn_81 : decode (mcd M_Mo_turn) 81 = .ok (.aload_n 0, 1) := by decide +kernel
theorem d_Mo_turn_82 : decode (mcd M_Mo_turn) 82 = .ok (.aload_n 0, 1) := by decide +kernel
theorem d_Mo_turn_83 : decode (mcd M_Mo_turn) 83 = .ok (.getfield 80, 3) := by decide +kernel
theorem d_Mo_turn_86 : decode (mcd M_Mo_turn) 86 = .ok (.iload_n 3, 1) := by decide +kernel
theorem d_Mo_turn_87 : decode (mcd M_Mo_turn) 87 = .ok (.iaload, 1) := by decide +kernel
theorem d_Mo_turn_88 : decode (mcd M_Mo_turn) 88 = .ok (.invokevirtual 160, 3) := by decide +kernel
theorem d_Mo_turn_91 : decode (mcd M_Mo_turn) 91 = .ok (.ifCond .eq 16, 3) := by decide +kernel
theorem d_Mo_turn_94 : decode (mcd M_Mo_turn) 94 = .ok (.aload_n 0, 1) := by decide +kernel
theorem d_Mo_turn_95 : decode (mcd M_Mo_turn) 95 = .ok (.getfield 80, 3) := by decide +kernel
theorem d_Mo_turn_98 : decode (mcd M_Mo_turn) 98 = .ok (.iload_n 3, 1) := by decide +kernel
theorem d_Mo_turn_99 : decode (mcd M_Mo_turn) 99 = .ok (.iconst 1, 1) := by decide +kernel
theorem d_Mo_turn_100 : decode (mcd M_Mo_turn) 100 = .ok (.iadd, 1) := by decide +kernel
theorem d_Mo_turn_101 : decode (mcd M_Mo_turn) 101 = .ok (.iaload, 1) := by decide +kernel
theorem d_Mo_turn_102 : decode (mcd M_Mo_turn) 102 = .ok (.bipush 100, 2) := by decide +kernel
theorem d_Mo_turn_104 : decode (mcd M_Mo_turn) 104 = .ok (.if_icmp .lt 10, 3) := by decide +kernel
theorem d_Mo_turn_107 : decode (mcd M_Mo_turn) 107 = .ok (.aload_n 0, 1) := by decide +kernel
theorem d_Mo_turn_108 : decode (mcd M_Mo_turn) 108 = .ok (.iload_n 1, 1) := by decide +kernel
theorem d_Mo_turn_109 : decode (mcd M_Mo_turn) 109 = .ok (.iconst 5, 1) := by decide +kernel
theorem d_Mo_turn_110 : decode (mcd M_Mo_turn) 110 = .ok (.invokevirtual 201, 3) := by decide +kernel
theorem d_Mo_turn_113 : decode (mcd M_Mo_turn) 113 = .ok (.return_, 1) := by decide +kernel
theorem d_Mo_turn_114 : decode (mcd M_Mo_turn) 114 = .ok (.aload_n 0, 1) := by decide +kernel
theorem d_Mo_turn_115 : decode (mcd M_Mo_turn) 115 = .ok (.iload_n 1, 1) := by decide +kernel
theorem d_Mo_turn_116 : decode (mcd M_Mo_turn) 116 = .ok (.iload 4, 2) := by decide +kernel
theorem d_Mo_turn_118 : decode (mcd M_Mo_turn) 118 = .ok (.iconst 0, 1) := by decide +kernel
theorem d_Mo_turn_119 : decode (mcd M_Mo_turn) 119 = .ok (.invokevirtual 247, 3) := by decide +kernel
theorem d_Mo_turn_122 : decode (mcd M_Mo_turn) 122 = .ok (.istore 5, 2) := by decide +kernel
theorem d_Mo_turn_124 : decode (mcd M_Mo_turn) 124 = .ok (.iload 5, 2) := by decide +kernel
theorem d_Mo_turn_126 : decode (mcd M_Mo_turn) 126 = .ok (.ifCond .ge 14, 3) := by decide +kernel
theorem d_Mo_turn_129 : decode (mcd M_Mo_turn) 129 = .ok (.aload_n 0, 1) := by decide +kernel
theorem d_Mo_turn_130 : decode (mcd M_Mo_turn) 130 = .ok (.iload_n 1, 1) := by decide +kernel
theorem d_Mo_turn_131 : decode (mcd M_Mo_turn) 131 = .ok (.iload 4, 2) := by decide +kernel
theorem d_Mo_turn_133 : decode (mcd M_Mo_turn) 133 = .ok (.iconst 1, 1) := by decide +kernel
theorem d_Mo_turn_134 : decode (mcd M_Mo_turn) 134 = .ok (.invokevirtual 247, 3) := by decide +kernel
theorem d_Mo_turn_137 : decode (mcd M_Mo_turn) 137 = .ok (.goto 4, 3) := by decide +kernel
theorem d_Mo_turn_140 : decode (mcd M_Mo_turn) 140 = .ok (.iconst (-1), 1) := by decide +kernel
theorem d_Mo_turn_141 : decode (mcd M_Mo_turn) 141 = .ok (.istore 6, 2) := by decide +kernel
theorem d_Mo_turn_143 : decode (mcd M_Mo_turn) 143 = .ok (.iload 5, 2) := by decide +kernel
theorem d_Mo_turn_145 : decode (mcd M_Mo_turn) 145 = .ok (.ifCond .lt 21, 3) := by decide +kernel
theorem d_Mo_turn_148 : decode (mcd M_Mo_turn) 148 = .ok (.aload_n 0, 1) := by decide +kernel
theorem d_Mo_turn_149 : decode (mcd M_Mo_turn) 149 = .ok (.iload_n 1, 1) := by decide +kernel
theorem d_Mo_turn_150 : decode (mcd M_Mo_turn) 150 = .ok (.bipush 6, 2) := by decide +kernel
theorem d_Mo_turn_152 : decode (mcd M_Mo_turn) 152 = .ok (.invokevirtual 201, 3) := by decide +kernel
theorem d_Mo_turn_155 : decode (mcd M_Mo_turn) 155 = .ok (.aload_n 0, 1) := by decide +kernel
theorem d_Mo_turn_156 : decode (mcd M_Mo_turn) 156 = .ok (.getfield 47, 3) := by decide +kernel
theorem d_Mo_turn_159 : decode (mcd M_Mo_turn) 159 = .ok (.iload_n 1, 1) := by decide +kernel
theorem d_Mo_turn_160 : decode (mcd M_Mo_turn) 160 = .ok (.iload 5, 2) := by decide +kernel
theorem d_Mo_turn_162 : decode (mcd M_Mo_turn) 162 = .ok (.iastore, 1) := by decide +kernel
theorem d_Mo_turn_163 : decode (mcd M_Mo_turn) 163 = .ok (.goto 64, 3) := by decide +kernel
theorem d_Mo_turn_166 : decode (mcd M_Mo_turn) 166 = .ok (.iload 6, 2) := by decide +kernel
theorem d_Mo_turn_168 : decode (mcd M_Mo_turn) 168 = .ok (.ifCond .lt 13, 3) := by decide +kernel
theorem d_Mo_turn_171 : decode (mcd M_Mo_turn) 171 = .ok (.aload_n 0, 1) := by decide +kernel
theorem d_Mo_turn_172 : decode (mcd M_Mo_turn) 172 = .ok (.iload_n 1, 1) := by decide +kernel
theorem d_Mo_turn_173 : decode (mcd M_Mo_turn) 173 = .ok (.iload 6, 2) := by decide +kernel
theorem d_Mo_turn_175 : decode (mcd M_Mo_turn) 175 = .ok (.invokevirtual 251, 3) := by decide +kernel
theorem d_Mo_turn_178 : decode (mcd M_Mo_turn) 178 = .ok (.goto 49, 3) := by decide +kernel
theorem d_Mo_turn_181 : decode (mcd M_Mo_turn) 181 = .ok (.iload 4, 2) := by decide +kernel
theorem d_Mo_turn_183 : decode (mcd M_Mo_turn) 183 = .ok (.ifCond .eq 38, 3) := by decide +kernel
theorem d_Mo_turn_186 : decode (mcd M_Mo_turn) 186 = .ok (.aload_n 0, 1) := by decide +kernel
theorem d_Mo_turn_187 : decode (mcd M_Mo_turn) 187 = .ok (.iload_n 1, 1) := by decide +kernel
theorem d_Mo_turn_188 : decode (mcd M_Mo_turn) 188 = .ok (.iconst 3, 1) := by decide +kernel
theorem d_Mo_turn_189 : decode (mcd M_Mo_turn) 189 = .ok (.invokevirtual 201, 3) := by decide +kernel
theorem d_Mo_turn_192 : decode (mcd M_Mo_turn) 192 = .ok (.aload_n 0, 1) := by decide +kernel
theorem d_Mo_turn_193 : decode (mcd M_Mo_turn) 193 = .ok (.iload_n 3, 1) := by decide +kernel
theorem d_Mo_turn_194 : decode (mcd M_Mo_turn) 194 = .ok (.invokevirtual 212, 3) := by decide +kernel
theorem d_Mo_turn_197 : decode (mcd M_Mo_turn) 197 = .ok (.aload_n 0, 1) := by decide +kernel
theorem d_Mo_turn_198 : decode (mcd M_Mo_turn) 198 = .ok (.getfield 53, 3) := by decide +kernel
theorem d_Mo_turn_201 : decode (mcd M_Mo_turn) 201 = .ok (.iload_n 1, 1) := by decide +kernel
theorem d_Mo_turn_202 : decode (mcd M_Mo_turn) 202 = .ok (.iconst 1, 1) := by decide +kernel
theorem d_Mo_turn_203 : decode (mcd M_Mo_turn) 203 = .ok (.iastore, 1) := by decide +kernel
theorem d_Mo_turn_204 : decode (mcd M_Mo_turn) 204 = .ok (.aload_n 0, 1) := by decide +kernel
theorem d_Mo_turn_205 : decode (mcd M_Mo_turn) 205 = .ok (.iload_n 1, 1) := by decide +kernel
theorem d_Mo_turn_206 : decode (mcd M_Mo_turn) 206 = .ok (.aload_n 0, 1) := by decide +kernel
theorem d_Mo_turn_207 : decode (mcd M_Mo_turn) 207 = .ok (.getfield 80, 3) := by decide +kernel
theorem d_Mo_turn_210 : decode (mcd M_Mo_turn) 210 = .ok (.iconst 0, 1) := by decide +kernel
theorem d_Mo_turn_211 : decode (mcd M_Mo_turn) 211 = .ok (.aload_n 0, 1) := by decide +kernel
theorem d_Mo_turn_212 : decode (mcd M_Mo_turn) 212 = .ok (.getfield 157, 3) := by decide +kernel
theorem d_Mo_turn_215 : decode (mcd M_Mo_turn) 215 = .ok (.invokevirtual 205, 3) := by decide +kernel
theorem d_Mo_turn_218 : decode (mcd M_Mo_turn) 218 = .ok (.goto 9, 3) := by decide +kernel
theorem d_Mo_turn_221 : decode (mcd M_Mo_turn) 221 = .ok (.aload_n 0, 1) := by decide +kernel
theorem d_Mo_turn_222 : decode (mcd M_Mo_turn) 222 = .ok (.iload_n 1, 1) := by decide +kernel
theorem d_Mo_turn_223 : decode (mcd M_Mo_turn) 223 = .ok (.iload_n 3, 1) := by decide +kernel
theorem d_Mo_turn_224 : decode (mcd M_Mo_turn) 224 = .ok (.invokevirtual 254, 3) := by decide +kernel
theorem d_Mo_turn_227 : decode (mcd M_Mo_turn) 227 = .ok (.return_, 1) := by decide +kernel
theorem d_Mo_type_0 : decode (mcd M_Mo_type) 0 = .ok (.aload_n 0, 1) := by decide +kernel
theorem d_Mo_type_1 : decode (mcd M_Mo_type) 1 = .ok (.iconst 0, 1) := by decide +kernel
theorem d_Mo_type_2 : decode (mcd M_Mo_type) 2 = .ok (.putfield 117, 3) := by decide +kernel
theorem d_Mo_type_5 : decode (mcd M_Mo_type) 5 = .ok (.aload_n 0, 1) := by decide +kernel
theorem d_Mo_type_6 : decode (mcd M_Mo_type) 6 = .ok (.getfield 127, 3) := by decide +kernel
theorem d_Mo_type_9 : decode (mcd M_Mo_type) 9 = .ok (.istore_n 3, 1) := by decide +kernel
theorem d_Mo_type_10 : decode (mcd M_Mo_type) 10 = .ok (.bipush 56, 2) := by decide +kernel
theorem d_Mo_type_12 : decode (mcd M_Mo_type) 12 = .ok (.istore 4, 2) := by decide +kernel
theorem d_Mo_type_14 : decode (mcd M_Mo_type) 14 = .ok (.iload 4, 2) := by decide +kernel
theorem d_Mo_type_16 : decode (mcd M_Mo_type) 16 = .ok (.ifCond .lt 58, 3) := by decide +kernel
theorem d_Mo_type_19 : decode (mcd M_Mo_type) 19 = .ok (.lload_n 1, 1) := by decide +kernel
theorem d_Mo_type_20 : decode (mcd M_Mo_type) 20 = .ok (.iload 4, 2) := by decide +kernel
theorem d_Mo_type_22 : decode (mcd M_Mo_type) 22 = .ok (.lshr, 1) := by decide +kernel
theorem d_Mo_type_23 : decode (mcd M_Mo_type) 23 = .ok (.ldc2_w 130, 3) := by decide +kernel
theorem d_Mo_type_26 : decode (mcd M_Mo_type) 26 = .ok (.land, 1) := by decide +kernel
theorem d_Mo_type_27 : decode (mcd M_Mo_type) 27 = .ok (.l2i, 1) := by decide +kernel
theorem d_Mo_type_28 : decode (mcd M_Mo_type) 28 = .ok (.istore 5, 2) := by decide +kernel
theorem d_Mo_type_30 : decode (mcd M_Mo_type) 30 = .ok (.iload 5, 2) := by decide +kernel
theorem d_Mo_type_32 : decode (mcd M_Mo_type) 32 = .ok (.ifCond .ne 6, 3) := by decide +kernel
theorem d_Mo_type_35 : decode (mcd M_Mo_type) 35 = .ok (.goto 33, 3) := by decide +kernel
theorem d_Mo_type_38 : decode (mcd M_Mo_type) 38 = .ok (.iload 5, 2) := by decide +kernel
theorem d_Mo_type_40 : decode (mcd M_Mo_type) 40 = .ok (.invokestatic 132, 3) := by decide +kernel
theorem d_Mo_type_43 : decode (mcd M_Mo_type) 43 = .ok (.ifCond .lt 9, 3) := by decide +kernel
theorem d_Mo_type_46 : decode (mcd M_Mo_type) 46 = .ok (.iload_n 3, 1) := by decide +kernel
theorem d_Mo_type_47 : decode (mcd M_Mo_type) 47 = .ok (.bipush 24, 2) := by decide +kernel
theorem d_Mo_type_49 : decode (mcd M_Mo_type) 49 = .ok (.if_icmp .ne 5, 3) := by decide +kernel
theorem d_Mo_type_52 : decode (mcd M_Mo_type) 52 = .ok (.iconst 0, 1) := by decide +kernel
theorem d_Mo_type_53 : decode (mcd M_Mo_type) 53 = .ok (.ireturn, 1) := by decide +kernel
theorem d_Mo_type_54 : decode (mcd M_Mo_type) 54 = .ok (.aload_n 0, 1) := by decide +kernel
theorem d_Mo_type_55 : decode (mcd M_Mo_type) 55 = .ok (.getfield 7, 3) := by decide +kernel
theorem d_Mo_type_58 : decode (mcd M_Mo_type) 58 = .ok (.iload_n 3, 1) := by decide +kernel
theorem d_Mo_type_59 : decode (mcd M_Mo_type) 59 = .ok (.iload 5, 2) := by decide +kernel
theorem d_Mo_type_61 : decode (mcd M_Mo_type) 61 = .ok (.invokestatic 132, 3) := by decide +kernel
theorem d_Mo_type_64 : decode (mcd M_Mo_type) 64 = .ok (.iastore, 1) := by decide +kernel
theorem d_Mo_type_65 : decode (mcd M_Mo_type) 65 = .ok (.iinc 3 1, 3) := by decide +kernel
theorem d_Mo_type_68 : decode (mcd M_Mo_type) 68 = .ok (.iinc 4 (-8), 3) := by decide +kernel
theorem d_Mo_type_71 : decode (mcd M_Mo_type) 71 = .ok (.goto (-57), 3) := by decide +kernel
theorem d_Mo_type_74 : decode (mcd M_Mo_type) 74 = .ok (.aload_n 0, 1) := by decide +kernel
theorem d_Mo_type_75 : decode (mcd M_Mo_type) 75 = .ok (.iload_n 3, 1) := by decide +kernel
theorem d_Mo_type_76 : decode (mcd M_Mo_type) 76 = .ok (.putfield 127, 3) := by decide +kernel
theorem d_Mo_type_79 : decode (mcd M_Mo_type) 79 = .ok (.iconst 1, 1) := by decide +kernel
theorem d_Mo_type_80 : decode (mcd M_Mo_type) 80 = .ok (.ireturn, 1) := by decide +kernel
theorem d_Mo_unfold_0 : decode (mcd M_Mo_unfold) 0 = .ok (.aload_n 0, 1) := by decide +kernel
theorem d_Mo_unfold_1 : decode (mcd M_Mo_unfold) 1 = .ok (.iload_n 1, 1) := by decide +kernel
theorem d_Mo_unfold_2 : decode (mcd M_Mo_unfold) 2 = .ok (.invokevirtual 171, 3) := by decide +kernel
theorem d_Mo_unfold_5 : decode (mcd M_Mo_unfold) 5 = .ok (.istore_n 2, 1) := by decide +kernel
theorem d_Mo_unfold_6 : decode (mcd M_Mo_unfold) 6 = .ok (.aload_n 0, 1) := by decide +kernel
theorem d_Mo_unfold_7 : decode (mcd M_Mo_unfold) 7 = .ok (.getfield 80, 3) := by decide +kernel
theorem d_Mo_unfold_10 : decode (mcd M_Mo_unfold) 10 = .ok (.iload_n 1, 1) := by decide +kernel
theorem d_Mo_unfold_11 : decode (mcd M_Mo_unfold) 11 = .ok (.iaload, 1) := by decide +kernel
theorem d_Mo_unfold_12 : decode (mcd M_Mo_unfold) 12 = .ok (.sipush 300, 3) := by decide +kernel
theorem d_Mo_unfold_15 : decode (mcd M_Mo_unfold) 15 = .ok (.if_icmp .ge 7, 3) := by decide +kernel
theorem d_Mo_unfold_18 : decode (mcd M_Mo_unfold) 18 = .ok (.iconst 1, 1) := by decide +kernel
theorem d_Mo_unfold_19 : decode (mcd M_Mo_unfold) 19 = .ok (.goto 4, 3) := by decide +kernel
theorem d_Mo_unfold_22 : decode (mcd M_Mo_unfold) 22 = .ok (.iconst 0, 1) := by decide +kernel
theorem d_Mo_unfold_23 : decode (mcd M_Mo_unfold) 23 = .ok (.istore_n 3, 1) := by decide +kernel
theorem d_Mo_unfold_24 : decode (mcd M_Mo_unfold) 24 = .ok (.aload_n 0, 1) := by decide +kernel
theorem d_Mo_unfold_25 : decode (mcd M_Mo_unfold) 25 = .ok (.iload_n 1, 1) := by decide +kernel
theorem d_Mo_unfold_26 : decode (mcd M_Mo_unfold) 26 = .ok (.iload_n 2, 1) := by decide +kernel
theorem d_Mo_unfold_27 : decode (mcd M_Mo_unfold) 27 = .ok (.invokevirtual 174, 3) := by decide +kernel
theorem d_Mo_unfold_30 : decode (mcd M_Mo_unfold) 30 = .ok (.istore 4, 2) := by decide +kernel
theorem d_Mo_unfold_32 : decode (mcd M_Mo_unfold) 32 = .ok (.iload_n 3, 1) := by decide +kernel
theorem d_Mo_unfold_33 : decode (mcd M_Mo_unfold) 33 = .ok (.ifCond .eq 10, 3) := by decide +kernel
theorem d_Mo_unfold_36 : decode (mcd M_Mo_unfold) 36 = .ok (.aload_n 0, 1) := by decide +kernel
theorem d_Mo_unfold_37 : decode (mcd M_Mo_unfold) 37 = .ok (.getfield 20, 3) := by decide +kernel
theorem d_Mo_unfold_40 : decode (mcd M_Mo_unfold) 40 = .ok (.goto 7, 3) := by decide +kernel
theorem d_Mo_unfold_43 : decode (mcd M_Mo_unfold) 43 = .ok (.aload_n 0, 1) := by decide +kernel
theorem d_Mo_unfold_44 : decode (mcd M_Mo_unfold) 44 = .ok (.getfield 74, 3) := by decide +kernel
theorem d_Mo_unfold_47 : decode (mcd M_Mo_unfold) 47 = .ok (.astore 5, 2) := by decide +kernel
theorem d_Mo_unfold_49 : decode (mcd M_Mo_unfold) 49 = .ok (.iload_n 3, 1) := by decide +kernel
theorem d_Mo_unfold_50 : decode (mcd M_Mo_unfold) 50 = .ok (.ifCond .eq 10, 3) := by decide +kernel
theorem d_Mo_unfold_53 : decode (mcd M_Mo_unfold) 53 = .ok (.bipush 24, 2) := by decide +kernel
theorem d_Mo_unfold_55 : decode (mcd M_Mo_unfold) 55 = .ok (.iload_n 2, 1) := by decide +kernel
theorem d_Mo_unfold_56 : decode (mcd M_Mo_unfold) 56 = .ok (.imul, 1) := by decide +kernel
theorem d_Mo_unfold_57 : decode (mcd M_Mo_unfold) 57 = .ok (.goto 7, 3) := by decide +kernel
theorem d_Mo_unfold_60 : decode (mcd M_Mo_unfold) 60 = .ok (.bipush 100, 2) := by decide +kernel
theorem d_Mo_unfold_62 : decode (mcd M_Mo_unfold) 62 = .ok (.iload_n 2, 1) := by decide +kernel
theorem d_Mo_unfold_63 : decode (mcd M_Mo_unfold) 63 = .ok (.imul, 1) := by decide +kernel
theorem d_Mo_unfold_64 : decode (mcd M_Mo_unfold) 64 = .ok (.istore 6, 2) := by decide +kernel
theorem d_Mo_unfold_66 : decode (mcd M_Mo_unfold) 66 = .ok (.iload_n 3, 1) := by decide +kernel
theorem d_Mo_unfold_67 : decode (mcd M_Mo_unfold) 67 = .ok (.ifCond .eq 12, 3) := by decide +kernel
theorem d_Mo_unfold_70 : decode (mcd M_Mo_unfold) 70 = .ok (.aload_n 0, 1) := by decide +kernel
theorem d_Mo_unfold_71 : decode (mcd M_Mo_unfold) 71 = .ok (.getfield 23, 3) := by decide +kernel
theorem d_Mo_unfold_74 : decode (mcd M_Mo_unfold) 74 = .ok (.iload_n 2, 1) := by decide +kernel
theorem d_Mo_unfold_75 : decode (mcd M_Mo_unfold) 75 = .ok (.iaload, 1) := by decide +kernel
theorem d_Mo_unfold_76 : decode (mcd M_Mo_unfold) 76 = .ok (.goto 9, 3) := by decide +kernel
theorem d_Mo_unfold_79 : decode (mcd M_Mo_unfold) 79 = .ok (.aload_n 0, 1) := by decide +kernel
theorem d_Mo_unfold_80 : decode (mcd M_Mo_unfold) 80 = .ok (.getfield 77, 3) := by decide +kernel
theorem d_Mo_unfold_83 : decode (mcd M_Mo_unfold) 83 = .ok (.iload_n 2, 1) := by decide +kernel
theorem d_Mo_unfold_84 : decode (mcd M_Mo_unfold) 84 = .ok (.iaload, 1) := by decide +kernel
theorem d_Mo_unfold_85 : decode (mcd M_Mo_unfold) 85 = .ok (.istore 7, 2) := by decide +kernel
theorem d_Mo_unfold_87 : decode (mcd M_Mo_unfold) 87 = .ok (.iconst 0, 1) := by decide +kernel
theorem d_Mo_unfold_88 : decode (mcd M_Mo_unfold) 88 = .ok (.istore 8, 2) := by decide +kernel
theorem d_Mo_unfold_90 : decode (mcd M_Mo_unfold) 90 = .ok (.iload 8, 2) := by decide +kernel
theorem d_Mo_unfold_92 : decode (mcd M_Mo_unfold) 92 = .ok (.iload_n 1, 1) := by decide +kernel
theorem d_Mo_unfold_93 : decode (mcd M_Mo_unfold) 93 = .ok (.if_icmp .ge 23, 3) := by decide +kernel
theorem d_Mo_unfold_96 : decode (mcd M_Mo_unfold) 96 = .ok (.aload_n 0, 1) := by decide +kernel
theorem d_Mo_unfold_97 : decode (mcd M_Mo_unfold) 97 = .ok (.getfield 83, 3) := by decide +kernel
theorem d_Mo_unfold_100 : decode (mcd M_Mo_unfold) 100 = .ok (.iload 8, 2) := by decide +kernel
theorem d_Mo_unfold_102 : decode (mcd M_Mo_unfold) 102 = .ok (.aload_n 0, 1) := by decide +kernel
theorem d_Mo_unfold_103 : decode (mcd M_Mo_unfold) 103 = .ok (.getfield 80, 3) := by decide +kernel
theorem d_Mo_unfold_106 : decode (mcd M_Mo_unfold) 106 = .ok (.iload 8, 2) := by decide +kernel
theorem d_Mo_unfold_108 : decode (mcd M_Mo_unfold) 108 = .ok (.iaload, 1) := by decide +kernel
theorem d_Mo_unfold_109 : decode (mcd M_Mo_unfold) 109 = .ok (.iastore, 1) := by decide +kernel
theorem d_Mo_unfold_110 : decode (mcd M_Mo_unfold) 110 = .ok (.iinc 8 1, 3) := by decide +kernel
theorem d_Mo_unfold_113 : decode (mcd M_Mo_unfold) 113 = .ok (.goto (-23), 3) := by decide +kernel
theorem d_Mo_unfold_116 : decode (mcd M_Mo_unfold) 116 = .ok (.iload_n 1, 1) := by decide +kernel
theorem d_Mo_unfold_117 : decode (mcd M_Mo_unfold) 117 = .ok (.istore 8, 2) := by decide +kernel
theorem d_Mo_unfold_119 : decode (mcd M_Mo_unfold) 119 = .ok (.iload 6, 2) := by decide +kernel
theorem d_Mo_unfold_121 : decode (mcd M_Mo_unfold) 121 = .ok (.istore 9, 2) := by decide +kernel
theorem d_Mo_unfold_123 : decode (mcd M_Mo_unfold) 123 = .ok (.iload 9, 2) := by decide +kernel
theorem d_Mo_unfold_125 : decode (mcd M_Mo_unfold) 125 = .ok (.iload 6, 2) := by decide +kernel
theorem d_Mo_unfold_127 : decode (mcd M_Mo_unfold) 127 = .ok (.iload 7, 2) := by decide +kernel
theorem d_Mo_unfold_129 : decode (mcd M_Mo_unfold) 129 = .ok (.iadd, 1) := by decide +kernel
theorem d_Mo_unfold_130 : decode (mcd M_Mo_unfold) 130 = .ok (.if_icmp .ge 87, 3) := by decide +kernel
theorem d_Mo_unfold_133 : decode (mcd M_Mo_unfold) 133 = .ok (.aload 5, 2) := by decide +kernel
theorem d_Mo_unfold_135 : decode (mcd M_Mo_unfold) 135 = .ok (.iload 9, 2) := by decide +kernel
theorem d_Mo_unfold_137 : decode (mcd M_Mo_unfold) 137 = .ok (.iaload, 1) := by decide +kernel
theorem d_Mo_unfold_138 : decode (mcd M_Mo_unfold) 138 = .ok (.bipush 100, 2) := by decide +kernel
theorem d_Mo_unfold_140 : decode (mcd M_Mo_unfold) 140 = .ok (.if_icmp .lt 21, 3) := by decide +kernel
theorem d_Mo_unfold_143 : decode (mcd M_Mo_unfold) 143 = .ok (.aload_n 0, 1) := by decide +kernel
theorem d_Mo_unfold_144 : decode (mcd M_Mo_unfold) 144 = .ok (.getfield 83, 3) := by decide +kernel
theorem d_Mo_unfold_147 : decode (mcd M_Mo_unfold) 147 = .ok (.iload 8, 2) := by decide +kernel
theorem d_Mo_unfold_149 : decode (mcd M_Mo_unfold) 149 = .ok (.aload 5, 2) := by decide +kernel
theorem d_Mo_unfold_151 : decode (mcd M_Mo_unfold) 151 = .ok (.iload 9, 2) := by decide +kernel
theorem d_Mo_unfold_153 : decode (mcd M_Mo_unfold) 153 = .ok (.iaload, 1) := by decide +kernel
theorem d_Mo_unfold_154 : decode (mcd M_Mo_unfold) 154 = .ok (.iastore, 1) := by decide +kernel
theorem d_Mo_unfold_155 : decode (mcd M_Mo_unfold) 155 = .ok (.iinc 8 1, 3) := by decide +kernel
theorem d_Mo_unfold_158 : decode (mcd M_Mo_unfold) 158 = .ok (.goto 53, 3) := by decide +kernel
theorem d_Mo_unfold_161 : decode (mcd M_Mo_unfold) 161 = .ok (.aload_n 0, 1) := by decide +kernel
theorem d_Mo_unfold_162 : decode (mcd M_Mo_unfold) 162 = .ok (.getfield 86, 3) := by decide +kernel
theorem d_Mo_unfold_165 : decode (mcd M_Mo_unfold) 165 = .ok (.aload 5, 2) := by decide +kernel
theorem d_Mo_unfold_167 : decode (mcd M_Mo_unfold) 167 = .ok (.iload 9, 2) := by decide +kernel
theorem d_Mo_unfold_169 : decode (mcd M_Mo_unfold) 169 = .ok (.iaload, 1) := by decide +kernel
theorem d_Mo_unfold_170 : decode (mcd M_Mo_unfold) 170 = .ok (.iaload, 1) := by decide +kernel
theorem d_Mo_unfold_171 : decode (mcd M_Mo_unfold) 171 = .ok (.istore 10, 2) := by decide +kernel
theorem d_Mo_unfold_173 : decode (mcd M_Mo_unfold) 173 = .ok (.iload 10, 2) := by decide +kernel
theorem d_Mo_unfold_175 : decode (mcd M_Mo_unfold) 175 = .ok (.aload_n 0, 1) := by decide +kernel
theorem d_Mo_unfold_176 : decode (mcd M_Mo_unfold) 176 = .ok (.getfield 89, 3) := by decide +kernel
theorem d_Mo_unfold_179 : decode (mcd M_Mo_unfold) 179 = .ok (.aload 5, 2) := by decide +kernel
theorem d_Mo_unfold_181 : decode (mcd M_Mo_unfold) 181 = .ok (.iload 9, 2) := by decide +kernel
theorem d_Mo_unfold_183 : decode (mcd M_Mo_unfold) 183 = .ok (.iaload, 1) := by decide +kernel
theorem d_Mo_unfold_184 : decode (mcd M_Mo_unfold) 184 = .ok (.iaload, 1) := by decide +kernel
theorem d_Mo_unfold_185 : decode (mcd M_Mo_unfold) 185 = .ok (.if_icmp .ge 26, 3) := by decide +kernel
theorem d_Mo_unfold_188 : decode (mcd M_Mo_unfold) 188 = .ok (.aload_n 0, 1) := by decide +kernel
theorem d_Mo_unfold_189 : decode (mcd M_Mo_unfold) 189 = .ok (.getfield 83, 3) := by decide +kernel
theorem d_Mo_unfold_192 : decode (mcd M_Mo_unfold) 192 = .ok (.iload 8, 2) := by decide +kernel
theorem d_Mo_unfold_194 : decode (mcd M_Mo_unfold) 194 = .ok (.aload_n 0, 1) := by decide +kernel
theorem d_Mo_unfold_195 : decode (mcd M_Mo_unfold) 195 = .ok (.getfield 80, 3) := by decide +kernel
theorem d_Mo_unfold_198 : decode (mcd M_Mo_unfold) 198 = .ok (.iload 10, 2) := by decide +kernel
theorem d_Mo_unfold_200 : decode (mcd M_Mo_unfold) 200 = .ok (.iaload, 1) := by decide +kernel
theorem d_Mo_unfold_201 : decode (mcd M_Mo_unfold) 201 = .ok (.iastore, 1) := by decide +kernel
theorem d_Mo_unfold_202 : decode (mcd M_Mo_unfold) 202 = .ok (.iinc 8 1, 3) := by decide +kernel
theorem d_Mo_unfold_205 : decode (mcd M_Mo_unfold) 205 = .ok (.iinc 10 1, 3) := by decide +kernel
theorem d_Mo_unfold_208 : decode (mcd M_Mo_unfold) 208 = .ok (.goto (-35), 3) := by decide +kernel
theorem d_Mo_unfold_211 : decode (mcd M_Mo_unfold) 211 = .ok (.iinc 9 1, 3) := by decide +kernel
theorem d_Mo_unfold_214 : decode (mcd M_Mo_unfold) 214 = .ok (.goto (-91), 3) := by decide +kernel
theorem d_Mo_unfold_217 : decode (mcd M_Mo_unfold) 217 = .ok (.iload 4, 2) := by decide +kernel
theorem d_Mo_unfold_219 : decode (mcd M_Mo_unfold) 219 = .ok (.istore 9, 2) := by decide +kernel
theorem d_Mo_unfold_221 : decode (mcd M_Mo_unfold) 221 = .ok (.iload 9, 2) := by decide +kernel
theorem d_Mo_unfold_223 : decode (mcd M_Mo_unfold) 223 = .ok (.aload_n 0, 1) := by decide +kernel
theorem d_Mo_unfold_224 : decode (mcd M_Mo_unfold) 224 = .ok (.getfield 157, 3) := by decide +kernel
theorem d_Mo_unfold_227 : decode (mcd M_Mo_unfold) 227 = .ok (.if_icmp .ge 26, 3) := by decide +kernel
theorem d_Mo_unfold_230 : decode (mcd M_Mo_unfold) 230 = .ok (.aload_n 0, 1) := by decide +kernel
theorem d_Mo_unfold_231 : decode (mcd M_Mo_unfold) 231 = .ok (.getfield 83, 3) := by decide +kernel
theorem d_Mo_unfold_234 : decode (mcd M_Mo_unfold) 234 = .ok (.iload 8, 2) := by decide +kernel
theorem d_Mo_unfold_236 : decode (mcd M_Mo_unfold) 236 = .ok (.aload_n 0, 1) := by decide +kernel
theorem d_Mo_unfold_237 : decode (mcd M_Mo_unfold) 237 = .ok (.getfield 80, 3) := by decide +kernel
theorem d_Mo_unfold_240 : decode (mcd M_Mo_unfold) 240 = .ok (.iload 9, 2) := by decide +kernel
theorem d_Mo_unfold_242 : decode (mcd M_Mo_unfold) 242 = .ok (.iaload, 1) := by decide +kernel
theorem d_Mo_unfold_243 : decode (mcd M_Mo_unfold) 243 = .ok (.iastore, 1) := by decide +kernel
theorem d_Mo_unfold_244 : decode (mcd M_Mo_unfold) 244 = .ok (.iinc 8 1, 3) := by decide +kernel
theorem d_Mo_unfold_247 : decode (mcd M_Mo_unfold) 247 = .ok (.iinc 9 1, 3) := by decide +kernel
theorem d_Mo_unfold_250 : decode (mcd M_Mo_unfold) 250 = .ok (.goto (-29), 3) := by decide +kernel
theorem d_Mo_unfold_253 : decode (mcd M_Mo_unfold) 253 = .ok (.iconst 0, 1) := by decide +kernel
theorem d_Mo_unfold_254 : decode (mcd M_Mo_unfold) 254 = .ok (.istore 9, 2) := by decide +kernel
theorem d_Mo_unfold_256 : decode (mcd M_Mo_unfold) 256 = .ok (.iload 9, 2) := by decide +kernel
theorem d_Mo_unfold_258 : decode (mcd M_Mo_unfold) 258 = .ok (.iload 8, 2) := by decide +kernel
theorem d_Mo_unfold_260 : decode (mcd M_Mo_unfold) 260 = .ok (.if_icmp .ge 23, 3) := by decide +kernel
theorem d_Mo_unfold_263 : decode (mcd M_Mo_unfold) 263 = .ok (.aload_n 0, 1) := by decide +kernel
theorem d_Mo_unfold_264 : decode (mcd M_Mo_unfold) 264 = .ok (.getfield 80, 3) := by decide +kernel
theorem d_Mo_unfold_267 : decode (mcd M_Mo_unfold) 267 = .ok (.iload 9, 2) := by decide +kernel
theorem d_Mo_unfold_269 : decode (mcd M_Mo_unfold) 269 = .ok (.aload_n 0, 1) := by decide +kernel
theorem d_Mo_unfold_270 : decode (mcd M_Mo_unfold) 270 = .ok (.getfield 83, 3) := by decide +kernel
theorem d_Mo_unfold_273 : decode (mcd M_Mo_unfold) 273 = .ok (.iload 9, 2) := by decide +kernel
theorem d_Mo_unfold_275 : decode (mcd M_Mo_unfold) 275 = .ok (.iaload, 1) := by decide +kernel
theorem d_Mo_unfold_276 : decode (mcd M_Mo_unfold) 276 = .ok (.iastore, 1) := by decide +kernel
theorem d_Mo_unfold_277 : decode (mcd M_Mo_unfold) 277 = .ok (.iinc 9 1, 3) := by decide +kernel
theorem d_Mo_unfold_280 : decode (mcd M_Mo_unfold) 280 = .ok (.goto (-24), 3) := by decide +kernel
theorem d_Mo_unfold_283 : decode (mcd M_Mo_unfold) 283 = .ok (.aload_n 0, 1) := by decide +kernel
theorem d_Mo_unfold_284 : decode (mcd M_Mo_unfold) 284 = .ok (.iload 8, 2) := by decide +kernel
theorem d_Mo_unfold_286 : decode (mcd M_Mo_unfold) 286 = .ok (.putfield 157, 3) := by decide +kernel
theorem d_Mo_unfold_289 : decode (mcd M_Mo_unfold) 289 = .ok (.return_, 1) := by decide +kernel
theorem d_Mo_wipe_0 : decode (mcd M_Mo_wipe) 0 = .ok (.aload_n 0, 1) := by decide +kernel
theorem d_Mo_wipe_1 : decode (mcd M_Mo_wipe) 1 = .ok (.iconst 0, 1) := by decide +kernel
theorem d_Mo_wipe_2 : decode (mcd M_Mo_wipe) 2 = .ok (.putfield 117, 3) := by decide +kernel
theorem d_Mo_wipe_5 : decode (mcd M_Mo_wipe) 5 = .ok (.aload_n 0, 1) := by decide +kernel
theorem d_Mo_wipe_6 : decode (mcd M_Mo_wipe) 6 = .ok (.iconst 0, 1) := by decide +kernel
theorem d_Mo_wipe_7 : decode (mcd M_Mo_wipe) 7 = .ok (.putfield 127, 3) := by decide +kernel
theorem d_Mo_wipe_10 : decode (mcd M_Mo_wipe) 10 = .ok (.return_, 1) := by decide +kernel
theorem d_Mo_write_0 : decode (mcd M_Mo_write) 0 = .ok (.aload_n 0, 1) := by decide +kernel
theorem d_Mo_write_1 : decode (mcd M_Mo_write) 1 = .ok (.iconst 0, 1) := by decide +kernel
theorem d_Mo_write_2 : decode (mcd M_Mo_write) 2 = .ok (.putfield 157, 3) := by decide +kernel
theorem d_Mo_write_5 : decode (mcd M_Mo_write) 5 = .ok (.aload_n 0, 1) := by decide +kernel
theorem d_Mo_write_6 : decode (mcd M_Mo_write) 6 = .ok (.getfield 65, 3) := by decide +kernel
theorem d_Mo_write_9 : decode (mcd M_Mo_write) 9 = .ok (.iload_n 1, 1) := by decide +kernel
theorem d_Mo_write_10 : decode (mcd M_Mo_write) 10 = .ok (.baload, 1) := by decide +kernel
theorem d_Mo_write_11 : decode (mcd M_Mo_write) 11 = .ok (.ifCond .eq 11, 3) := by decide +kernel
theorem d_Mo_write_14 : decode (mcd M_Mo_write) 14 = .ok (.aload_n 0, 1) := by decide +kernel
theorem d_Mo_write_15 : decode (mcd M_Mo_write) 15 = .ok (.iload_n 1, 1) := by decide +kernel
theorem d_Mo_write_16 : decode (mcd M_Mo_write) 16 = .ok (.invokevirtual 275, 3) := by decide +kernel
theorem d_Mo_write_19 : decode (mcd M_Mo_write) 19 = .ok (.goto 300, 3) := by decide +kernel
theorem d_Mo_write_22 : decode (mcd M_Mo_write) 22 = .ok (.aload_n 0, 1) := by decide +kernel
theorem d_Mo_write_23 : decode (mcd M_Mo_write) 23 = .ok (.getfield 35, 3) := by decide +kernel
theorem d_Mo_write_26 : decode (mcd M_Mo_write) 26 = .ok (.iload_n 1, 1) := by decide +kernel
theorem d_Mo_write_27 : decode (mcd M_Mo_write) 27 = .ok (.iaload, 1) := by decide +kernel
theorem d_Mo_write_28 : decode (mcd M_Mo_write) 28 = .ok (.iconst 1, 1) := by decide +kernel
theorem d_Mo_write_29 : decode (mcd M_Mo_write) 29 = .ok (.if_icmp .ne 11, 3) := by decide +kernel
theorem d_Mo_write_32 : decode (mcd M_Mo_write) 32 = .ok (.aload_n 0, 1) := by decide +kernel
theorem d_Mo_write_33 : decode (mcd M_Mo_write) 33 = .ok (.iload_n 1, 1) := by decide +kernel
theorem d_Mo_write_34 : decode (mcd M_Mo_write) 34 = .ok (.invokevirtual 240, 3) := by decide +kernel
theorem d_Mo_write_37 : decode (mcd M_Mo_write) 37 = .ok (.goto 282, 3) := by decide +kernel
theorem d_Mo_write_40 : decode (mcd M_Mo_write) 40 = .ok (.aload_n 0, 1) := by decide +kernel
theorem d_Mo_write_41 : decode (mcd M_Mo_write) 41 = .ok (.getfield 35, 3) := by decide +kernel
theorem d_Mo_write_44 : decode (mcd M_Mo_write) 44 = .ok (.iload_n 1, 1) := by decide +kernel
theorem d_Mo_write_45 : decode (mcd M_Mo_write) 45 = .ok (.iaload, 1) := by decide +kernel
theorem d_Mo_write_46 : decode (mcd M_Mo_write) 46 = .ok (.iconst 5, 1) := by decide +kernel
theorem d_Mo_write_47 : decode (mcd M_Mo_write) 47 = .ok (.if_icmp .ne 13, 3) := by decide +kernel
theorem d_Mo_write_50 : decode (mcd M_Mo_write) 50 = .ok (.aload_n 0, 1) := by decide +kernel
theorem d_Mo_write_51 : decode (mcd M_Mo_write) 51 = .ok (.sipush 400, 3) := by decide +kernel
theorem d_Mo_write_54 : decode (mcd M_Mo_write) 54 = .ok (.invokevirtual 272, 3) := by decide +kernel
theorem d_Mo_write_57 : decode (mcd M_Mo_write) 57 = .ok (.goto 262, 3) := by decide +kernel
theorem d_Mo_write_60 : decode (mcd M_Mo_write) 60 = .ok (.aload_n 0, 1) := by decide +kernel
theorem d_Mo_write_61 : decode (mcd M_Mo_write) 61 = .ok (.getfield 35, 3) := by decide +kernel
theorem d_Mo_write_64 : decode (mcd M_Mo_write) 64 = .ok (.iload_n 1, 1) := by decide +kernel
theorem d_Mo_write_65 : decode (mcd M_Mo_write) 65 = .ok (.iaload, 1) := by decide +kernel
theorem d_Mo_write_66 : decode (mcd M_Mo_write) 66 = .ok (.iconst 2, 1) := by decide +kernel
theorem d_Mo_write_67 : decode (mcd M_Mo_write) 67 = .ok (.if_icmp .ne 49, 3) := by decide +kernel
theorem d_Mo_write_70 : decode (mcd M_Mo_write) 70 = .ok (.aload_n 0, 1) := by decide +kernel
theorem d_Mo_write_71 : decode (mcd M_Mo_write) 71 = .ok (.aload_n 0, 1) := by decide +kernel
theorem d_Mo_write_72 : decode (mcd M_Mo_write) 72 = .ok (.getfield 41, 3) := by decide +kernel
theorem d_Mo_write_75 : decode (mcd M_Mo_write) 75 = .ok (.bipush 40, 2) := by decide +kernel
theorem d_Mo_write_77 : decode (mcd M_Mo_write) 77 = .ok (.iload_n 1, 1) := by decide +kernel
theorem d_Mo_write_78 : decode (mcd M_Mo_write) 78 = .ok (.imul, 1) := by decide +kernel
theorem d_Mo_write_79 : decode (mcd M_Mo_write) 79 = .ok (.iaload, 1) := by decide +kernel
theorem d_Mo_write_80 : decode (mcd M_Mo_write) 80 = .ok (.invokevirtual 272, 3) := by decide +kernel
theorem d_Mo_write_83 : decode (mcd M_Mo_write) 83 = .ok (.iconst 0, 1) := by decide +kernel
theorem d_Mo_write_84 : decode (mcd M_Mo_write) 84 = .ok (.istore_n 2, 1) := by decide +kernel
theorem d_Mo_write_85 : decode (mcd M_Mo_write) 85 = .ok (.iload_n 2, 1) := by decide +kernel
theorem d_Mo_write_86 : decode (mcd M_Mo_write) 86 = .ok (.aload_n 0, 1) := by decide +kernel
theorem d_Mo_write_87 : decode (mcd M_Mo_write) 87 = .ok (.getfield 53, 3) := by decide +kernel
theorem d_Mo_write_90 : decode (mcd M_Mo_write) 90 = .ok (.iload_n 1, 1) := by decide +kernel
theorem d_Mo_write_91 : decode (mcd M_Mo_write) 91 = .ok (.iaload, 1) := by decide +kernel
theorem d_Mo_write_92 : decode (mcd M_Mo_write) 92 = .ok (.if_icmp .ge 21, 3) := by decide +kernel
theorem d_Mo_write_95 : decode (mcd M_Mo_write) 95 = .ok (.aload_n 0, 1) := by decide +kernel
theorem d_Mo_write_96 : decode (mcd M_Mo_write) 96 = .ok (.aload_n 0, 1) := by decide +kernel
theorem d_Mo_write_97 : decode (mcd M_Mo_write) 97 = .ok (.getfield 50, 3) := by decide +kernel
theorem d_Mo_write_100 : decode (mcd M_Mo_write) 100 = .ok (.iload_n 1, 1) := by decide +kernel
theorem d_Mo_write_101 : decode (mcd M_Mo_write) 101 = .ok (.iaload, 1) := by decide +kernel
theorem d_Mo_write_102 : decode (mcd M_Mo_write) 102 = .ok (.iload_n 2, 1) := by decide +kernel
theorem d_Mo_write_103 : decode (mcd M_Mo_write) 103 = .ok (.iadd, 1) := by decide +kernel
theorem d_Mo_write_104 : decode (mcd M_Mo_write) 104 = .ok (.invokevirtual 278, 3) := by decide +kernel
theorem d_Mo_write_107 : decode (mcd M_Mo_write) 107 = .ok (.iinc 2 1, 3) := by decide +kernel
theorem d_Mo_write_110 : decode (mcd M_Mo_write) 110 = .ok (.goto (-25), 3) := by decide +kernel
theorem d_Mo_write_113 : decode (mcd M_Mo_write) 113 = .ok (.goto 206, 3) := by decide +kernel
theorem d_Mo_write_116 : decode (mcd M_Mo_write) 116 = .ok (.aload_n 0, 1) := by decide +kernel
theorem d_Mo_write_117 : decode (mcd M_Mo_write) 117 = .ok (.getfield 35, 3) := by decide +kernel
theorem d_Mo_write_120 : decode (mcd M_Mo_write) 120 = .ok (.iload_n 1, 1) := by decide +kernel
theorem d_Mo_write_121 : decode (mcd M_Mo_write) 121 = .ok (.iaload, 1) := by decide +kernel
theorem d_Mo_write_122 : decode (mcd M_Mo_write) 122 = .ok (.iconst 3, 1) := by decide +kernel
theorem d_Mo_write_123 : decode (mcd M_Mo_write) 123 = .ok (.if_icmp .ne 16, 3) := by decide +kernel
theorem d_Mo_write_126 : decode (mcd M_Mo_write) 126 = .ok (.aload_n 0, 1) := by decide +kernel
theorem d_Mo_write_127 : decode (mcd M_Mo_write) 127 = .ok (.aload_n 0, 1) := by decide +kernel
theorem d_Mo_write_128 : decode (mcd M_Mo_write) 128 = .ok (.getfield 50, 3) := by decide +kernel
theorem d_Mo_write_131 : decode (mcd M_Mo_write) 131 = .ok (.iload_n 1, 1) := by decide +kernel
theorem d_Mo_write_132 : decode (mcd M_Mo_write) 132 = .ok (.iaload, 1) := by decide +kernel
theorem d_Mo_write_133 : decode (mcd M_Mo_write) 133 = .ok (.invokevirtual 278, 3) := by decide +kernel
theorem d_Mo_write_136 : decode (mcd M_Mo_write) 136 = .ok (.goto 183, 3) := by decide +kernel
theorem d_Mo_write_139 : decode (mcd M_Mo_write) 139 = .ok (.aload_n 0, 1) := by decide +kernel
theorem d_Mo_write_140 : decode (mcd M_Mo_write) 140 = .ok (.getfield 35, 3) := by decide +kernel
theorem d_Mo_write_143 : decode (mcd M_Mo_write) 143 = .ok (.iload_n 1, 1) := by decide +kernel
theorem d_Mo_write_144 : decode (mcd M_Mo_write) 144 = .ok (.iaload, 1) := by decide +kernel
theorem d_Mo_write_145 : decode (mcd M_Mo_write) 145 = .ok (.bipush 6, 2) := by decide +kernel
theorem d_Mo_write_147 : decode (mcd M_Mo_write) 147 = .ok (.if_icmp .ne 65, 3) := by decide +kernel
theorem d_Mo_write_150 : decode (mcd M_Mo_write) 150 = .ok (.aload_n 0, 1) := by decide +kernel
theorem d_Mo_write_151 : decode (mcd M_Mo_write) 151 = .ok (.aload_n 0, 1) := by decide +kernel
theorem d_Mo_write_152 : decode (mcd M_Mo_write) 152 = .ok (.getfield 47, 3) := by decide +kernel
theorem d_Mo_write_155 : decode (mcd M_Mo_write) 155 = .ok (.iload_n 1, 1) := by decide +kernel
theorem d_Mo_write_156 : decode (mcd M_Mo_write) 156 = .ok (.iaload, 1) := by decide +kernel
theorem d_Mo_write_157 : decode (mcd M_Mo_write) 157 = .ok (.iload_n 1, 1) := by decide +kernel
theorem d_Mo_write_158 : decode (mcd M_Mo_write) 158 = .ok (.invokevirtual 198, 3) := by decide +kernel
theorem d_Mo_write_161 : decode (mcd M_Mo_write) 161 = .ok (.istore_n 2, 1) := by decide +kernel
theorem d_Mo_write_162 : decode (mcd M_Mo_write) 162 = .ok (.aload_n 0, 1) := by decide +kernel
theorem d_Mo_write_163 : decode (mcd M_Mo_write) 163 = .ok (.aload_n 0, 1) := by decide +kernel
theorem d_Mo_write_164 : decode (mcd M_Mo_write) 164 = .ok (.getfield 47, 3) := by decide +kernel
theorem d_Mo_write_167 : decode (mcd M_Mo_write) 167 = .ok (.iload_n 1, 1) := by decide +kernel
theorem d_Mo_write_168 : decode (mcd M_Mo_write) 168 = .ok (.iaload, 1) := by decide +kernel
theorem d_Mo_write_169 : decode (mcd M_Mo_write) 169 = .ok (.invokevirtual 275, 3) := by decide +kernel
theorem d_Mo_write_172 : decode (mcd M_Mo_write) 172 = .ok (.iconst 1, 1) := by decide +kernel
theorem d_Mo_write_173 : decode (mcd M_Mo_write) 173 = .ok (.istore_n 3, 1) := by decide +kernel
theorem d_Mo_write_174 : decode (mcd M_Mo_write) 174 = .ok (.iload_n 3, 1) := by decide +kernel
theorem d_Mo_write_175 : decode (mcd M_Mo_write) 175 = .ok (.aload_n 0, 1) := by decide +kernel
theorem d_Mo_write_176 : decode (mcd M_Mo_write) 176 = .ok (.getfield 157, 3) := by decide +kernel
theorem d_Mo_write_179 : decode (mcd M_Mo_write) 179 = .ok (.if_icmp .ge 30, 3) := by decide +kernel
theorem d_Mo_write_182 : decode (mcd M_Mo_write) 182 = .ok (.iload_n 2, 1) := by decide +kernel
theorem d_Mo_write_183 : decode (mcd M_Mo_write) 183 = .ok (.ifCond .eq 26, 3) := by decide +kernel
theorem d_Mo_write_186 : decode (mcd M_Mo_write) 186 = .ok (.aload_n 0, 1) := by decide +kernel
theorem d_Mo_write_187 : decode (mcd M_Mo_write) 187 = .ok (.getfield 80, 3) := by decide +kernel
theorem d_Mo_write_190 : decode (mcd M_Mo_write) 190 = .ok (.iload_n 3, 1) := by decide +kernel
theorem d_Mo_write_191 : decode (mcd M_Mo_write) 191 = .ok (.aload_n 0, 1) := by decide +kernel
theorem d_Mo_write_192 : decode (mcd M_Mo_write) 192 = .ok (.getfield 92, 3) := by decide +kernel
theorem d_Mo_write_195 : decode (mcd M_Mo_write) 195 = .ok (.aload_n 0, 1) := by decide +kernel
theorem d_Mo_write_196 : decode (mcd M_Mo_write) 196 = .ok (.getfield 80, 3) := by decide +kernel
theorem d_Mo_write_199 : decode (mcd M_Mo_write) 199 = .ok (.iload_n 3, 1) := by decide +kernel
theorem d_Mo_write_200 : decode (mcd M_Mo_write) 200 = .ok (.iaload, 1) := by decide +kernel
theorem d_Mo_write_201 : decode (mcd M_Mo_write) 201 = .ok (.iaload, 1) := by decide +kernel
theorem d_Mo_write_202 : decode (mcd M_Mo_write) 202 = .ok (.iastore, 1) := by decide +kernel
theorem d_Mo_write_203 : decode (mcd M_Mo_write) 203 = .ok (.iinc 3 1, 3) := by decide +kernel
theorem d_Mo_write_206 : decode (mcd M_Mo_write) 206 = .ok (.goto (-32), 3) := by decide +kernel
theorem d_Mo_write_209 : decode (mcd M_Mo_write) 209 = .ok (.goto 110, 3) := by decide +kernel
theorem d_Mo_write_212 : decode (mcd M_Mo_write) 212 = .ok (.bipush 100, 2) := by decide +kernel
theorem d_Mo_write_214 : decode (mcd M_Mo_write) 214 = .ok (.aload_n 0, 1) := by decide +kernel
theorem d_Mo_write_215 : decode (mcd M_Mo_write) 215 = .ok (.getfield 50, 3) := by decide +kernel
theorem d_Mo_write_218 : decode (mcd M_Mo_write) 218 = .ok (.iload_n 1, 1) := by decide +kernel
theorem d_Mo_write_219 : decode (mcd M_Mo_write) 219 = .ok (.iaload, 1) := by decide +kernel
theorem d_Mo_write_220 : decode (mcd M_Mo_write) 220 = .ok (.imul, 1) := by decide +kernel
theorem d_Mo_write_221 : decode (mcd M_Mo_write) 221 = .ok (.istore_n 2, 1) := by decide +kernel
theorem d_Mo_write_222 : decode (mcd M_Mo_write) 222 = .ok (.iload_n 2, 1) := by decide +kernel
theorem d_Mo_write_223 : decode (mcd M_Mo_write) 223 = .ok (.bipush 100, 2) := by decide +kernel
theorem d_Mo_write_225 : decode (mcd M_Mo_write) 225 = .ok (.aload_n 0, 1) := by decide +kernel
theorem d_Mo_write_226 : decode (mcd M_Mo_write) 226 = .ok (.getfield 50, 3) := by decide +kernel
theorem d_Mo_write_229 : decode (mcd M_Mo_write) 229 = .ok (.iload_n 1, 1) := by decide +kernel
theorem d_Mo_write_230 : decode (mcd M_Mo_write) 230 = .ok (.iaload, 1) := by decide +kernel
theorem d_Mo_write_231 : decode (mcd M_Mo_write) 231 = .ok (.imul, 1) := by decide +kernel
theorem d_Mo_write_232 : decode (mcd M_Mo_write) 232 = .ok (.aload_n 0, 1) := by decide +kernel
theorem d_Mo_write_233 : decode (mcd M_Mo_write) 233 = .ok (.getfield 77, 3) := by decide +kernel
theorem d_Mo_write_236 : decode (mcd M_Mo_write) 236 = .ok (.aload_n 0, 1) := by decide +kernel
theorem d_Mo_write_237 : decode (mcd M_Mo_write) 237 = .ok (.getfield 50, 3) := by decide +kernel
theorem d_Mo_write_240 : decode (mcd M_Mo_write) 240 = .ok (.iload_n 1, 1) := by decide +kernel
theorem d_Mo_write_241 : decode (mcd M_Mo_write) 241 = .ok (.iaload, 1) := by decide +kernel
theorem d_Mo_write_242 : decode (mcd M_Mo_write) 242 = .ok (.iaload, 1) := by decide +kernel
theorem d_Mo_write_243 : decode (mcd M_Mo_write) 243 = .ok (.iadd, 1) := by decide +kernel
theorem d_Mo_write_244 : decode (mcd M_Mo_write) 244 = .ok (.if_icmp .ge 75, 3) := by decide +kernel
theorem d_Mo_write_247 : decode (mcd M_Mo_write) 247 = .ok (.aload_n 0, 1) := by decide +kernel
theorem d_Mo_write_248 : decode (mcd M_Mo_write) 248 = .ok (.getfield 74, 3) := by decide +kernel
theorem d_Mo_write_251 : decode (mcd M_Mo_write) 251 = .ok (.iload_n 2, 1) := by decide +kernel
theorem d_Mo_write_252 : decode (mcd M_Mo_write) 252 = .ok (.iaload, 1) := by decide +kernel
theorem d_Mo_write_253 : decode (mcd M_Mo_write) 253 = .ok (.aload_n 0, 1) := by decide +kernel
theorem d_Mo_write_254 : decode (mcd M_Mo_write) 254 = .ok (.getfield 56, 3) := by decide +kernel
theorem d_Mo_write_257 : decode (mcd M_Mo_write) 257 = .ok (.iload_n 1, 1) := by decide +kernel
theorem d_Mo_write_258 : decode (mcd M_Mo_write) 258 = .ok (.iaload, 1) := by decide +kernel
theorem d_Mo_write_259 : decode (mcd M_Mo_write) 259 = .ok (.isub, 1) := by decide +kernel
theorem d_Mo_write_260 : decode (mcd M_Mo_write) 260 = .ok (.istore_n 3, 1) := by decide +kernel
theorem d_Mo_write_261 : decode (mcd M_Mo_write) 261 = .ok (.aload_n 0, 1) := by decide +kernel
theorem d_Mo_write_262 : decode (mcd M_Mo_write) 262 = .ok (.getfield 74, 3) := by decide +kernel
theorem d_Mo_write_265 : decode (mcd M_Mo_write) 265 = .ok (.iload_n 2, 1) := by decide +kernel
theorem d_Mo_write_266 : decode (mcd M_Mo_write) 266 = .ok (.iaload, 1) := by decide +kernel
theorem d_Mo_write_267 : decode (mcd M_Mo_write) 267 = .ok (.bipush 100, 2) := by decide +kernel
theorem d_Mo_write_269 : decode (mcd M_Mo_write) 269 = .ok (.if_icmp .ge 34, 3) := by decide +kernel
theorem d_Mo_write_272 : decode (mcd M_Mo_write) 272 = .ok (.iload_n 3, 1) := by decide +kernel
theorem d_Mo_write_273 : decode (mcd M_Mo_write) 273 = .ok (.ifCond .lt 30, 3) := by decide +kernel
theorem d_Mo_write_276 : decode (mcd M_Mo_write) 276 = .ok (.iload_n 3, 1) := by decide +kernel
theorem d_Mo_write_277 : decode (mcd M_Mo_write) 277 = .ok (.aload_n 0, 1) := by decide +kernel
theorem d_Mo_write_278 : decode (mcd M_Mo_write) 278 = .ok (.getfield 47, 3) := by decide +kernel
theorem d_Mo_write_281 : decode (mcd M_Mo_write) 281 = .ok (.iload_n 1, 1) := by decide +kernel
theorem d_Mo_write_282 : decode (mcd M_Mo_write) 282 = .ok (.iaload, 1) := by decide +kernel
theorem d_Mo_write_283 : decode (mcd M_Mo_write) 283 = .ok (.if_icmp .ge 20, 3) := by decide +kernel
theorem d_Mo_write_286 : decode (mcd M_Mo_write) 286 = .ok (.aload_n 0, 1) := by decide +kernel
theorem d_Mo_write_287 : decode (mcd M_Mo_write) 287 = .ok (.aload_n 0, 1) := by decide +kernel
theorem d_Mo_write_288 : decode (mcd M_Mo_write) 288 = .ok (.getfield 50, 3) := by decide +kernel
theorem d_Mo_write_291 : decode (mcd M_Mo_write) 291 = .ok (.iload_n 1, 1) := by decide +kernel
theorem d_Mo_write_292 : decode (mcd M_Mo_write) 292 = .ok (.iaload, 1) := by decide +kernel
theorem d_Mo_write_293 : decode (mcd M_Mo_write) 293 = .ok (.iconst 1, 1) := by decide +kernel
theorem d_Mo_write_294 : decode (mcd M_Mo_write) 294 = .ok (.iadd, 1) := by decide +kernel
theorem d_Mo_write_295 : decode (mcd M_Mo_write) 295 = .ok (.iload_n 3, 1) := by decide +kernel
theorem d_Mo_write_296 : decode (mcd M_Mo_write) 296 = .ok (.iadd, 1) := by decide +kernel
theorem d_Mo_write_297 : decode (mcd M_Mo_write) 297 = .ok (.invokevirtual 278, 3) := by decide +kernel
theorem d_Mo_write_300 : decode (mcd M_Mo_write) 300 = .ok (.goto 13, 3) := by decide +kernel
theorem d_Mo_write_303 : decode (mcd M_Mo_write) 303 = .ok (.aload_n 0, 1) := by decide +kernel
theorem d_Mo_write_304 : decode (mcd M_Mo_write) 304 = .ok (.aload_n 0, 1) := by decide +kernel
theorem d_Mo_write_305 : decode (mcd M_Mo_write) 305 = .ok (.getfield 74, 3) := by decide +kernel
theorem d_Mo_write_308 : decode (mcd M_Mo_write) 308 = .ok (.iload_n 2, 1) := by decide +kernel
theorem d_Mo_write_309 : decode (mcd M_Mo_write) 309 = .ok (.iaload, 1) := by decide +kernel
theorem d_Mo_write_310 : decode (mcd M_Mo_write) 310 = .ok (.invokevirtual 272, 3) := by decide +kernel
theorem d_Mo_write_313 : decode (mcd M_Mo_write) 313 = .ok (.iinc 2 1, 3) := by decide +kernel
theorem d_Mo_write_316 : decode (mcd M_Mo_write) 316 = .ok (.goto (-94), 3) := by decide +kernel
theorem d_Mo_write_319 : decode (mcd M_Mo_write) 319 = .ok (.aload_n 0, 1) := by decide +kernel
theorem d_Mo_write_320 : decode (mcd M_Mo_write) 320 = .ok (.aload_n 0, 1) := by decide +kernel
theorem d_Mo_write_321 : decode (mcd M_Mo_write) 321 = .ok (.getfield 177, 3) := by decide +kernel
theorem d_Mo_write_324 : decode (mcd M_Mo_write) 324 = .ok (.ifCond .ne 12, 3) := by decide +kernel
theorem d_Mo_write_327 : decode (mcd M_Mo_write) 327 = .ok (.aload_n 0, 1) := by decide +kernel
theorem d_Mo_write_328 : decode (mcd M_Mo_write) 328 = .ok (.getfield 157, 3) := by decide +kernel
theorem d_Mo_write_331 : decode (mcd M_Mo_write) 331 = .ok (.bipush 100, 2) := by decide +kernel
theorem d_Mo_write_333 : decode (mcd M_Mo_write) 333 = .ok (.if_icmp .le 7, 3) := by decide +kernel
theorem d_Mo_write_336 : decode (mcd M_Mo_write) 336 = .ok (.iconst 1, 1) := by decide +kernel
theorem d_Mo_write_337 : decode (mcd M_Mo_write) 337 = .ok (.goto 4, 3) := by decide +kernel
theorem d_Mo_write_340 : decode (mcd M_Mo_write) 340 = .ok (.iconst 0, 1) := by decide +kernel
theorem d_Mo_write_341 : decode (mcd M_Mo_write) 341 = .ok (.putfield 177, 3) := by decide +kernel
theorem d_Mo_write_344 : decode (mcd M_Mo_write) 344 = .ok (.aload_n 0, 1) := by decide +kernel
theorem d_Mo_write_345 : decode (mcd M_Mo_write) 345 = .ok (.getfield 177, 3) := by decide +kernel
theorem d_Mo_write_348 : decode (mcd M_Mo_write) 348 = .ok (.ifCond .eq 4, 3) := by decide +kernel
theorem d_Mo_write_351 : decode (mcd M_Mo_write) 351 = .ok (.return_, 1) := by decide +kernel
theorem d_Mo_write_352 : decode (mcd M_Mo_write) 352 = .ok (.aload_n 0, 1) := by decide +kernel
theorem d_Mo_write_353 : decode (mcd M_Mo_write) 353 = .ok (.getfield 77, 3) := by decide +kernel
theorem d_Mo_write_356 : decode (mcd M_Mo_write) 356 = .ok (.iload_n 1, 1) := by decide +kernel
theorem d_Mo_write_357 : decode (mcd M_Mo_write) 357 = .ok (.aload_n 0, 1) := by decide +kernel
theorem d_Mo_write_358 : decode (mcd M_Mo_write) 358 = .ok (.getfield 157, 3) := by decide +kernel
theorem d_Mo_write_361 : decode (mcd M_Mo_write) 361 = .ok (.iastore, 1) := by decide +kernel
theorem d_Mo_write_362 : decode (mcd M_Mo_write) 362 = .ok (.iconst 0, 1) := by decide +kernel
theorem d_Mo_write_363 : decode (mcd M_Mo_write) 363 = .ok (.istore_n 2, 1) := by decide +kernel
theorem d_Mo_write_364 : decode (mcd M_Mo_write) 364 = .ok (.iload_n 2, 1) := by decide +kernel
theorem d_Mo_write_365 : decode (mcd M_Mo_write) 365 = .ok (.aload_n 0, 1) := by decide +kernel
theorem d_Mo_write_366 : decode (mcd M_Mo_write) 366 = .ok (.getfield 157, 3) := by decide +kernel
theorem d_Mo_write_369 : decode (mcd M_Mo_write) 369 = .ok (.if_icmp .ge 26, 3) := by decide +kernel
theorem d_Mo_write_372 : decode (mcd M_Mo_write) 372 = .ok (.aload_n 0, 1) := by decide +kernel
theorem d_Mo_write_373 : decode (mcd M_Mo_write) 373 = .ok (.getfield 74, 3) := by decide +kernel
theorem d_Mo_write_376 : decode (mcd M_Mo_write) 376 = .ok (.bipush 100, 2) := by decide +kernel
theorem d_Mo_write_378 : decode (mcd M_Mo_write) 378 = .ok (.iload_n 1, 1) := by decide +kernel
theorem d_Mo_write_379 : decode (mcd M_Mo_write) 379 = .ok (.imul, 1) := by decide +kernel
theorem d_Mo_write_380 : decode (mcd M_Mo_write) 380 = .ok (.iload_n 2, 1) := by decide +kernel
theorem d_Mo_write_381 : decode (mcd M_Mo_write) 381 = .ok (.iadd, 1) := by decide +kernel
theorem d_Mo_write_382 : decode (mcd M_Mo_write) 382 = .ok (.aload_n 0, 1) := by decide +kernel
theorem d_Mo_write_383 : decode (mcd M_Mo_write) 383 = .ok (.getfield 80, 3) := by decide +kernel
theorem d_Mo_write_386 : decode (mcd M_Mo_write) 386 = .ok (.iload_n 2, 1) := by decide +kernel
theorem d_Mo_write_387 : decode (mcd M_Mo_write) 387 = .ok (.iaload, 1) := by decide +kernel
theorem d_Mo_write_388 : decode (mcd M_Mo_write) 388 = .ok (.iastore, 1) := by decide +kernel
theorem d_Mo_write_389 : decode (mcd M_Mo_write) 389 = .ok (.iinc 2 1, 3) := by decide +kernel
theorem d_Mo_write_392 : decode (mcd M_Mo_write) 392 = .ok (.goto (-28), 3) := by decide +kernel
theorem d_Mo_write_395 : decode (mcd M_Mo_write) 395 = .ok (.return_, 1) := by decide +kernel
