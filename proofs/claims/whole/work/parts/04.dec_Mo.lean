theorem d_Mo_init_0 : decode (mcd M_Mo_init) 0 = .ok (.aload_n 0, 1) := by decide +kernel
theorem d_Mo_init_1 : decode (mcd M_Mo_init) 1 = .ok (.invokespecial 1, 3) := by decide +kernel
theorem d_Mo_init_4 : decode (mcd M_Mo_init) 4 = .ok (.aload_n 0, 1) := by decide +kernel
theorem d_Mo_init_5 : decode (mcd M_Mo_init) 5 = .ok (.bipush 24, 2) := by decide +kernel
theorem d_Mo_init_7 : decode (mcd M_Mo_init) 7 = .ok (.newarray .int, 2) := by decide +kernel
theorem d_Mo_init_9 : decode (mcd M_Mo_init) 9 = .ok (.putfield 7, 3) := by decide +kernel
theorem d_Mo_init_12 : decode (mcd M_Mo_init) 12 = .ok (.aload_n 0, 1) := by decide +kernel
theorem d_Mo_init_13 : decode (mcd M_Mo_init) 13 = .ok (.bipush 8, 2) := by decide +kernel
theorem d_Mo_init_15 : decode (mcd M_Mo_init) 15 = .ok (.newarray .int, 2) := by decide +kernel
theorem d_Mo_init_17 : decode (mcd M_Mo_init) 17 = .ok (.putfield 13, 3) := by decide +kernel
theorem d_Mo_init_20 : decode (mcd M_Mo_init) 20 = .ok (.aload_n 0, 1) := by decide +kernel
theorem d_Mo_init_21 : decode (mcd M_Mo_init) 21 = .ok (.bipush 8, 2) := by decide +kernel
theorem d_Mo_init_23 : decode (mcd M_Mo_init) 23 = .ok (.newarray .boolean, 2) := by decide +kernel
theorem d_Mo_init_25 : decode (mcd M_Mo_init) 25 = .ok (.putfield 16, 3) := by decide +kernel
theorem d_Mo_init_28 : decode (mcd M_Mo_init) 28 = .ok (.aload_n 0, 1) := by decide +kernel
theorem d_Mo_init_29 : decode (mcd M_Mo_init) 29 = .ok (.sipush 1344, 3) := by decide +kernel
theorem d_Mo_init_32 : decode (mcd M_Mo_init) 32 = .ok (.newarray .int, 2) := by decide +kernel
theorem d_Mo_init_34 : decode (mcd M_Mo_init) 34 = .ok (.putfield 20, 3) := by decide +kernel
theorem d_Mo_init_37 : decode (mcd M_Mo_init) 37 = .ok (.aload_n 0, 1) := by decide +kernel
theorem d_Mo_init_38 : decode (mcd M_Mo_init) 38 = .ok (.bipush 56, 2) := by decide +kernel
theorem d_Mo_init_40 : decode (mcd M_Mo_init) 40 = .ok (.newarray .int, 2) := by decide +kernel
theorem d_Mo_init_42 : decode (mcd M_Mo_init) 42 = .ok (.putfield 23, 3) := by decide +kernel
theorem d_Mo_init_45 : decode (mcd M_Mo_init) 45 = .ok (.aload_n 0, 1) := by decide +kernel
theorem d_Mo_init_46 : decode (mcd M_Mo_init) 46 = .ok (.bipush 24, 2) := by decide +kernel
theorem d_Mo_init_48 : decode (mcd M_Mo_init) 48 = .ok (.newarray .int, 2) := by decide +kernel
theorem d_Mo_init_50 : decode (mcd M_Mo_init) 50 = .ok (.putfield 26, 3) := by decide +kernel
theorem d_Mo_init_53 : decode (mcd M_Mo_init) 53 = .ok (.aload_n 0, 1) := by decide +kernel
theorem d_Mo_init_54 : decode (mcd M_Mo_init) 54 = .ok (.sipush 192, 3) := by decide +kernel
theorem d_Mo_init_57 : decode (mcd M_Mo_init) 57 = .ok (.newarray .int, 2) := by decide +kernel
theorem d_Mo_init_59 : decode (mcd M_Mo_init) 59 = .ok (.putfield 29, 3) := by decide +kernel
theorem d_Mo_init_62 : decode (mcd M_Mo_init) 62 = .ok (.aload_n 0, 1) := by decide +kernel
theorem d_Mo_init_63 : decode (mcd M_Mo_init) 63 = .ok (.bipush 8, 2) := by decide +kernel
theorem d_Mo_init_65 : decode (mcd M_Mo_init) 65 = .ok (.newarray .int, 2) := by decide +kernel
theorem d_Mo_init_67 : decode (mcd M_Mo_init) 67 = .ok (.putfield 32, 3) := by decide +kernel
theorem d_Mo_init_70 : decode (mcd M_Mo_init) 70 = .ok (.aload_n 0, 1) := by decide +kernel
theorem d_Mo_init_71 : decode (mcd M_Mo_init) 71 = .ok (.bipush 48, 2) := by decide +kernel
theorem d_Mo_init_73 : decode (mcd M_Mo_init) 73 = .ok (.newarray .int, 2) := by decide +kernel
theorem d_Mo_init_75 : decode (mcd M_Mo_init) 75 = .ok (.putfield 35, 3) := by decide +kernel
theorem d_Mo_init_78 : decode (mcd M_Mo_init) 78 = .ok (.aload_n 0, 1) := by decide +kernel
theorem d_Mo_init_79 : decode (mcd M_Mo_init) 79 = .ok (.bipush 48, 2) := by decide +kernel
theorem d_Mo_init_81 : decode (mcd M_Mo_init) 81 = .ok (.newarray .int, 2) := by decide +kernel
theorem d_Mo_init_83 : decode (mcd M_Mo_init) 83 = .ok (.putfield 38, 3) := by decide +kernel
theorem d_Mo_init_86 : decode (mcd M_Mo_init) 86 = .ok (.aload_n 0, 1) := by decide +kernel
theorem d_Mo_init_87 : decode (mcd M_Mo_init) 87 = .ok (.sipush 1920, 3) := by decide +kernel
theorem d_Mo_init_90 : decode (mcd M_Mo_init) 90 = .ok (.newarray .int, 2) := by decide +kernel
theorem d_Mo_init_92 : decode (mcd M_Mo_init) 92 = .ok (.putfield 41, 3) := by decide +kernel
theorem d_Mo_init_95 : decode (mcd M_Mo_init) 95 = .ok (.aload_n 0, 1) := by decide +kernel
theorem d_Mo_init_96 : decode (mcd M_Mo_init) 96 = .ok (.bipush 48, 2) := by decide +kernel
theorem d_Mo_init_98 : decode (mcd M_Mo_init) 98 = .ok (.newarray .int, 2) := by decide +kernel
theorem d_Mo_init_100 : decode (mcd M_Mo_init) 100 = .ok (.putfield 44, 3) := by decide +kernel
theorem d_Mo_init_103 : decode (mcd M_Mo_init) 103 = .ok (.aload_n 0, 1) := by decide +kernel
theorem d_Mo_init_104 : decode (mcd M_Mo_init) 104 = .ok (.bipush 48, 2) := by decide +kernel
theorem d_Mo_init_106 : decode (mcd M_Mo_init) 106 = .ok (.newarray .int, 2) := by decide +kernel
theorem d_Mo_init_108 : decode (mcd M_Mo_init) 108 = .ok (.putfield 47, 3) := by decide +kernel
theorem d_Mo_init_111 : decode (mcd M_Mo_init) 111 = .ok (.aload_n 0, 1) := by decide +kernel
theorem d_Mo_init_112 : decode (mcd M_Mo_init) 112 = .ok (.bipush 48, 2) := by decide +kernel
theorem d_Mo_init_114 : decode (mcd M_Mo_init) 114 = .ok (.newarray .int, 2) := by decide +kernel
theorem d_Mo_init_116 : decode (mcd M_Mo_init) 116 = .ok (.putfield 50, 3) := by decide +kernel
theorem d_Mo_init_119 : decode (mcd M_Mo_init) 119 = .ok (.aload_n 0, 1) := by decide +kernel
theorem d_Mo_init_120 : decode (mcd M_Mo_init) 120 = .ok (.bipush 48, 2) := by decide +kernel
theorem d_Mo_init_122 : decode (mcd M_Mo_init) 122 = .ok (.newarray .int, 2) := by decide +kernel
theorem d_Mo_init_124 : decode (mcd M_Mo_init) 124 = .ok (.putfield 53, 3) := by decide +kernel
theorem d_Mo_init_127 : decode (mcd M_Mo_init) 127 = .ok (.aload_n 0, 1) := by decide +kernel
theorem d_Mo_init_128 : decode (mcd M_Mo_init) 128 = .ok (.bipush 48, 2) := by decide +kernel
theorem d_Mo_init_130 : decode (mcd M_Mo_init) 130 = .ok (.newarray .int, 2) := by decide +kernel
theorem d_Mo_init_132 : decode (mcd M_Mo_init) 132 = .ok (.putfield 56, 3) := by decide +kernel
theorem d_Mo_init_135 : decode (mcd M_Mo_init) 135 = .ok (.aload_n 0, 1) := by decide +kernel
theorem d_Mo_init_136 : decode (mcd M_Mo_init) 136 = .ok (.bipush 48, 2) := by decide +kernel
theorem d_Mo_init_138 : decode (mcd M_Mo_init) 138 = .ok (.newarray .int, 2) := by decide +kernel
theorem d_Mo_init_140 : decode (mcd M_Mo_init) 140 = .ok (.putfield 59, 3) := by decide +kernel
theorem d_Mo_init_143 : decode (mcd M_Mo_init) 143 = .ok (.aload_n 0, 1) := by decide +kernel
theorem d_Mo_init_144 : decode (mcd M_Mo_init) 144 = .ok (.bipush 48, 2) := by decide +kernel
theorem d_Mo_init_146 : decode (mcd M_Mo_init) 146 = .ok (.newarray .int, 2) := by decide +kernel
theorem d_Mo_init_148 : decode (mcd M_Mo_init) 148 = .ok (.putfield 62, 3) := by decide +kernel
theorem d_Mo_init_151 : decode (mcd M_Mo_init) 151 = .ok (.aload_n 0, 1) := by decide +kernel
theorem d_Mo_init_152 : decode (mcd M_Mo_init) 152 = .ok (.bipush 48, 2) := by decide +kernel
theorem d_Mo_init_154 : decode (mcd M_Mo_init) 154 = .ok (.newarray .boolean, 2) := by decide +kernel
theorem d_Mo_init_156 : decode (mcd M_Mo_init) 156 = .ok (.putfield 65, 3) := by decide +kernel
theorem d_Mo_init_159 : decode (mcd M_Mo_init) 159 = .ok (.aload_n 0, 1) := by decide +kernel
theorem d_Mo_init_160 : decode (mcd M_Mo_init) 160 = .ok (.sipush 1920, 3) := by decide +kernel
theorem d_Mo_init_163 : decode (mcd M_Mo_init) 163 = .ok (.newarray .int, 2) := by decide +kernel
theorem d_Mo_init_165 : decode (mcd M_Mo_init) 165 = .ok (.putfield 68, 3) := by decide +kernel
theorem d_Mo_init_168 : decode (mcd M_Mo_init) 168 = .ok (.aload_n 0, 1) := by decide +kernel
theorem d_Mo_init_169 : decode (mcd M_Mo_init) 169 = .ok (.bipush 48, 2) := by decide +kernel
theorem d_Mo_init_171 : decode (mcd M_Mo_init) 171 = .ok (.newarray .int, 2) := by decide +kernel
theorem d_Mo_init_173 : decode (mcd M_Mo_init) 173 = .ok (.putfield 71, 3) := by decide +kernel
theorem d_Mo_init_176 : decode (mcd M_Mo_init) 176 = .ok (.aload_n 0, 1) := by decide +kernel
theorem d_Mo_init_177 : decode (mcd M_Mo_init) 177 = .ok (.sipush 4800, 3) := by decide +kernel
theorem d_Mo_init_180 : decode (mcd M_Mo_init) 180 = .ok (.newarray .int, 2) := by decide +kernel
theorem d_Mo_init_182 : decode (mcd M_Mo_init) 182 = .ok (.putfield 74, 3) := by decide +kernel
theorem d_Mo_init_185 : decode (mcd M_Mo_init) 185 = .ok (.aload_n 0, 1) := by decide +kernel
theorem d_Mo_init_186 : decode (mcd M_Mo_init) 186 = .ok (.bipush 48, 2) := by decide +kernel
theorem d_Mo_init_188 : decode (mcd M_Mo_init) 188 = .ok (.newarray .int, 2) := by decide +kernel
theorem d_Mo_init_190 : decode (mcd M_Mo_init) 190 = .ok (.putfield 77, 3) := by decide +kernel
theorem d_Mo_init_193 : decode (mcd M_Mo_init) 193 = .ok (.aload_n 0, 1) := by decide +kernel
theorem d_Mo_init_194 : decode (mcd M_Mo_init) 194 = .ok (.sipush 20400, 3) := by decide +kernel
theorem d_Mo_init_197 : decode (mcd M_Mo_init) 197 = .ok (.newarray .int, 2) := by decide +kernel
theorem d_Mo_init_199 : decode (mcd M_Mo_init) 199 = .ok (.putfield 80, 3) := by decide +kernel
theorem d_Mo_init_202 : decode (mcd M_Mo_init) 202 = .ok (.aload_n 0, 1) := by decide +kernel
theorem d_Mo_init_203 : decode (mcd M_Mo_init) 203 = .ok (.sipush 20400, 3) := by decide +kernel
theorem d_Mo_init_206 : decode (mcd M_Mo_init) 206 = .ok (.newarray .int, 2) := by decide +kernel
theorem d_Mo_init_208 : decode (mcd M_Mo_init) 208 = .ok (.putfield 83, 3) := by decide +kernel
theorem d_Mo_init_211 : decode (mcd M_Mo_init) 211 = .ok (.aload_n 0, 1) := by decide +kernel
theorem d_Mo_init_212 : decode (mcd M_Mo_init) 212 = .ok (.bipush 100, 2) := by decide +kernel
theorem d_Mo_init_214 : decode (mcd M_Mo_init) 214 = .ok (.newarray .int, 2) := by decide +kernel
theorem d_Mo_init_216 : decode (mcd M_Mo_init) 216 = .ok (.putfield 86, 3) := by decide +kernel
theorem d_Mo_init_219 : decode (mcd M_Mo_init) 219 = .ok (.aload_n 0, 1) := by decide +kernel
theorem d_Mo_init_220 : decode (mcd M_Mo_init) 220 = .ok (.bipush 100, 2) := by decide +kernel
theorem d_Mo_init_222 : decode (mcd M_Mo_init) 222 = .ok (.newarray .int, 2) := by decide +kernel
theorem d_Mo_init_224 : decode (mcd M_Mo_init) 224 = .ok (.putfield 89, 3) := by decide +kernel
theorem d_Mo_init_227 : decode (mcd M_Mo_init) 227 = .ok (.aload_n 0, 1) := by decide +kernel
theorem d_Mo_init_228 : decode (mcd M_Mo_init) 228 = .ok (.bipush 100, 2) := by decide +kernel
theorem d_Mo_init_230 : decode (mcd M_Mo_init) 230 = .ok (.newarray .int, 2) := by decide +kernel
theorem d_Mo_init_232 : decode (mcd M_Mo_init) 232 = .ok (.putfield 92, 3) := by decide +kernel
theorem d_Mo_init_235 : decode (mcd M_Mo_init) 235 = .ok (.aload_n 0, 1) := by decide +kernel
theorem d_Mo_init_236 : decode (mcd M_Mo_init) 236 = .ok (.bipush 100, 2) := by decide +kernel
theorem d_Mo_init_238 : decode (mcd M_Mo_init) 238 = .ok (.newarray .int, 2) := by decide +kernel
theorem d_Mo_init_240 : decode (mcd M_Mo_init) 240 = .ok (.putfield 95, 3) := by decide +kernel
theorem d_Mo_init_243 : decode (mcd M_Mo_init) 243 = .ok (.aload_n 0, 1) := by decide +kernel
theorem d_Mo_init_244 : decode (mcd M_Mo_init) 244 = .ok (.sipush 1600, 3) := by decide +kernel
theorem d_Mo_init_247 : decode (mcd M_Mo_init) 247 = .ok (.newarray .boolean, 2) := by decide +kernel
theorem d_Mo_init_249 : decode (mcd M_Mo_init) 249 = .ok (.putfield 98, 3) := by decide +kernel
theorem d_Mo_init_252 : decode (mcd M_Mo_init) 252 = .ok (.aload_n 0, 1) := by decide +kernel
theorem d_Mo_init_253 : decode (mcd M_Mo_init) 253 = .ok (.bipush 40, 2) := by decide +kernel
theorem d_Mo_init_255 : decode (mcd M_Mo_init) 255 = .ok (.newarray .int, 2) := by decide +kernel
theorem d_Mo_init_257 : decode (mcd M_Mo_init) 257 = .ok (.putfield 101, 3) := by decide +kernel
theorem d_Mo_init_260 : decode (mcd M_Mo_init) 260 = .ok (.aload_n 0, 1) := by decide +kernel
theorem d_Mo_init_261 : decode (mcd M_Mo_init) 261 = .ok (.bipush 40, 2) := by decide +kernel
theorem d_Mo_init_263 : decode (mcd M_Mo_init) 263 = .ok (.newarray .int, 2) := by decide +kernel
theorem d_Mo_init_265 : decode (mcd M_Mo_init) 265 = .ok (.putfield 104, 3) := by decide +kernel
theorem d_Mo_init_268 : decode (mcd M_Mo_init) 268 = .ok (.aload_n 0, 1) := by decide +kernel
theorem d_Mo_init_269 : decode (mcd M_Mo_init) 269 = .ok (.bipush 40, 2) := by decide +kernel
theorem d_Mo_init_271 : decode (mcd M_Mo_init) 271 = .ok (.newarray .int, 2) := by decide +kernel
theorem d_Mo_init_273 : decode (mcd M_Mo_init) 273 = .ok (.putfield 107, 3) := by decide +kernel
theorem d_Mo_init_276 : decode (mcd M_Mo_init) 276 = .ok (.aload_n 0, 1) := by decide +kernel
theorem d_Mo_init_277 : decode (mcd M_Mo_init) 277 = .ok (.iconst (-1), 1) := by decide +kernel
theorem d_Mo_init_278 : decode (mcd M_Mo_init) 278 = .ok (.putfield 110, 3) := by decide +kernel
theorem d_Mo_init_281 : decode (mcd M_Mo_init) 281 = .ok (.aload_n 0, 1) := by decide +kernel
theorem d_Mo_init_282 : decode (mcd M_Mo_init) 282 = .ok (.sipush 200, 3) := by decide +kernel
theorem d_Mo_init_285 : decode (mcd M_Mo_init) 285 = .ok (.newarray .int, 2) := by decide +kernel
theorem d_Mo_init_287 : decode (mcd M_Mo_init) 287 = .ok (.putfield 114, 3) := by decide +kernel
theorem d_Mo_init_290 : decode (mcd M_Mo_init) 290 = .ok (.return_, 1) := by decide +kernel
theorem d_Mo_add_0 : decode (mcd M_Mo_add) 0 = .ok (.aload_n 0, 1) := by decide +kernel
theorem d_Mo_add_1 : decode (mcd M_Mo_add) 1 = .ok (.aload_n 0, 1) := by decide +kernel
theorem d_Mo_add_2 : decode (mcd M_Mo_add) 2 = .ok (.getfield 177, 3) := by decide +kernel
theorem d_Mo_add_5 : decode (mcd M_Mo_add) 5 = .ok (.ifCond .ne 21, 3) := by decide +kernel
theorem d_Mo_add_8 : decode (mcd M_Mo_add) 8 = .ok (.aload_n 0, 1) := by decide +kernel
theorem d_Mo_add_9 : decode (mcd M_Mo_add) 9 = .ok (.getfield 180, 3) := by decide +kernel
theorem d_Mo_add_12 : decode (mcd M_Mo_add) 12 = .ok (.bipush 48, 2) := by decide +kernel
theorem d_Mo_add_14 : decode (mcd M_Mo_add) 14 = .ok (.if_icmp .eq 12, 3) := by decide +kernel
theorem d_Mo_add_17 : decode (mcd M_Mo_add) 17 = .ok (.iload 4, 2) := by decide +kernel
theorem d_Mo_add_19 : decode (mcd M_Mo_add) 19 = .ok (.iload_n 3, 1) := by decide +kernel
theorem d_Mo_add_20 : decode (mcd M_Mo_add) 20 = .ok (.isub, 1) := by decide +kernel
theorem d_Mo_add_21 : decode (mcd M_Mo_add) 21 = .ok (.bipush 40, 2) := by decide +kernel
theorem d_Mo_add_23 : decode (mcd M_Mo_add) 23 = .ok (.if_icmp .le 7, 3) := by decide +kernel
theorem d_Mo_add_26 : decode (mcd M_Mo_add) 26 = .ok (.iconst 1, 1) := by decide +kernel
theorem d_Mo_add_27 : decode (mcd M_Mo_add) 27 = .ok (.goto 4, 3) := by decide +kernel
theorem d_Mo_add_30 : decode (mcd M_Mo_add) 30 = .ok (.iconst 0, 1) := by decide +kernel
theorem d_Mo_add_31 : decode (mcd M_Mo_add) 31 = .ok (.putfield 177, 3) := by decide +kernel
theorem d_Mo_add_34 : decode (mcd M_Mo_add) 34 = .ok (.aload_n 0, 1) := by decide +kernel
theorem d_Mo_add_35 : decode (mcd M_Mo_add) 35 = .ok (.getfield 177, 3) := by decide +kernel
theorem d_Mo_add_38 : decode (mcd M_Mo_add) 38 = .ok (.ifCond .eq 4, 3) := by decide +kernel
theorem d_Mo_add_41 : decode (mcd M_Mo_add) 41 = .ok (.return_, 1) := by decide +kernel
theorem d_Mo_add_42 : decode (mcd M_Mo_add) 42 = .ok (.aload_n 0, 1) := by decide +kernel
theorem d_Mo_add_43 : decode (mcd M_Mo_add) 43 = .ok (.getfield 35, 3) := by decide +kernel
theorem d_Mo_add_46 : decode (mcd M_Mo_add) 46 = .ok (.aload_n 0, 1) := by decide +kernel
theorem d_Mo_add_47 : decode (mcd M_Mo_add) 47 = .ok (.getfield 180, 3) := by decide +kernel
theorem d_Mo_add_50 : decode (mcd M_Mo_add) 50 = .ok (.bipush 8, 2) := by decide +kernel
theorem d_Mo_add_52 : decode (mcd M_Mo_add) 52 = .ok (.iastore, 1) := by decide +kernel
theorem d_Mo_add_53 : decode (mcd M_Mo_add) 53 = .ok (.aload_n 0, 1) := by decide +kernel
theorem d_Mo_add_54 : decode (mcd M_Mo_add) 54 = .ok (.getfield 38, 3) := by decide +kernel
theorem d_Mo_add_57 : decode (mcd M_Mo_add) 57 = .ok (.aload_n 0, 1) := by decide +kernel
theorem d_Mo_add_58 : decode (mcd M_Mo_add) 58 = .ok (.getfield 180, 3) := by decide +kernel
theorem d_Mo_add_61 : decode (mcd M_Mo_add) 61 = .ok (.iload_n 1, 1) := by decide +kernel
theorem d_Mo_add_62 : decode (mcd M_Mo_add) 62 = .ok (.iastore, 1) := by decide +kernel
theorem d_Mo_add_63 : decode (mcd M_Mo_add) 63 = .ok (.aload_n 0, 1) := by decide +kernel
theorem d_Mo_add_64 : decode (mcd M_Mo_add) 64 = .ok (.getfield 47, 3) := by decide +kernel
theorem d_Mo_add_67 : decode (mcd M_Mo_add) 67 = .ok (.aload_n 0, 1) := by decide +kernel
theorem d_Mo_add_68 : decode (mcd M_Mo_add) 68 = .ok (.getfield 180, 3) := by decide +kernel
theorem d_Mo_add_71 : decode (mcd M_Mo_add) 71 = .ok (.iconst (-1), 1) := by decide +kernel
theorem d_Mo_add_72 : decode (mcd M_Mo_add) 72 = .ok (.iastore, 1) := by decide +kernel
theorem d_Mo_add_73 : decode (mcd M_Mo_add) 73 = .ok (.aload_n 0, 1) := by decide +kernel
theorem d_Mo_add_74 : decode (mcd M_Mo_add) 74 = .ok (.getfield 53, 3) := by decide +kernel
theorem d_Mo_add_77 : decode (mcd M_Mo_add) 77 = .ok (.aload_n 0, 1) := by decide +kernel
theorem d_Mo_add_78 : decode (mcd M_Mo_add) 78 = .ok (.getfield 180, 3) := by decide +kernel
theorem d_Mo_add_81 : decode (mcd M_Mo_add) 81 = .ok (.iconst 0, 1) := by decide +kernel
theorem d_Mo_add_82 : decode (mcd M_Mo_add) 82 = .ok (.iastore, 1) := by decide +kernel
theorem d_Mo_add_83 : decode (mcd M_Mo_add) 83 = .ok (.aload_n 0, 1) := by decide +kernel
theorem d_Mo_add_84 : decode (mcd M_Mo_add) 84 = .ok (.getfield 44, 3) := by decide +kernel
theorem d_Mo_add_87 : decode (mcd M_Mo_add) 87 = .ok (.aload_n 0, 1) := by decide +kernel
theorem d_Mo_add_88 : decode (mcd M_Mo_add) 88 = .ok (.getfield 180, 3) := by decide +kernel
theorem d_Mo_add_91 : decode (mcd M_Mo_add) 91 = .ok (.iload 4, 2) := by decide +kernel
theorem d_Mo_add_93 : decode (mcd M_Mo_add) 93 = .ok (.iload_n 3, 1) := by decide +kernel
theorem d_Mo_add_94 : decode (mcd M_Mo_add) 94 = .ok (.isub, 1) := by decide +kernel
theorem d_Mo_add_95 : decode (mcd M_Mo_add) 95 = .ok (.iastore, 1) := by decide +kernel
theorem d_Mo_add_96 : decode (mcd M_Mo_add) 96 = .ok (.iload_n 3, 1) := by decide +kernel
theorem d_Mo_add_97 : decode (mcd M_Mo_add) 97 = .ok (.istore 5, 2) := by decide +kernel
theorem d_Mo_add_99 : decode (mcd M_Mo_add) 99 = .ok (.iload 5, 2) := by decide +kernel
theorem d_Mo_add_101 : decode (mcd M_Mo_add) 101 = .ok (.iload 4, 2) := by decide +kernel
theorem d_Mo_add_103 : decode (mcd M_Mo_add) 103 = .ok (.if_icmp .ge 30, 3) := by decide +kernel
theorem d_Mo_add_106 : decode (mcd M_Mo_add) 106 = .ok (.aload_n 0, 1) := by decide +kernel
theorem d_Mo_add_107 : decode (mcd M_Mo_add) 107 = .ok (.getfield 41, 3) := by decide +kernel
theorem d_Mo_add_110 : decode (mcd M_Mo_add) 110 = .ok (.bipush 40, 2) := by decide +kernel
theorem d_Mo_add_112 : decode (mcd M_Mo_add) 112 = .ok (.aload_n 0, 1) := by decide +kernel
theorem d_Mo_add_113 : decode (mcd M_Mo_add) 113 = .ok (.getfield 180, 3) := by decide +kernel
theorem d_Mo_add_116 : decode (mcd M_Mo_add) 116 = .ok (.imul, 1) := by decide +kernel
theorem d_Mo_add_117 : decode (mcd M_Mo_add) 117 = .ok (.iload 5, 2) := by decide +kernel
theorem d_Mo_add_119 : decode (mcd M_Mo_add) 119 = .ok (.iadd, 1) := by decide +kernel
theorem d_Mo_add_120 : decode (mcd M_Mo_add) 120 = .ok (.iload_n 3, 1) := by decide +kernel
theorem d_Mo_add_121 : decode (mcd M_Mo_add) 121 = .ok (.isub, 1) := by decide +kernel
theorem d_Mo_add_122 : decode (mcd M_Mo_add) 122 = .ok (.aload_n 2, 1) := by decide +kernel
theorem d_Mo_add_123 : decode (mcd M_Mo_add) 123 = .ok (.iload 5, 2) := by decide +kernel
theorem d_Mo_add_125 : decode (mcd M_Mo_add) 125 = .ok (.iaload, 1) := by decide +kernel
theorem d_Mo_add_126 : decode (mcd M_Mo_add) 126 = .ok (.iastore, 1) := by decide +kernel
theorem d_Mo_add_127 : decode (mcd M_Mo_add) 127 = .ok (.iinc 5 1, 3) := by decide +kernel
theorem d_Mo_add_130 : decode (mcd M_Mo_add) 130 = .ok (.goto (-31), 3) := by decide +kernel
theorem d_Mo_add_133 : decode (mcd M_Mo_add) 133 = .ok (.aload_n 0, 1) := by decide +kernel
theorem d_Mo_add_134 : decode (mcd M_Mo_add) 134 = .ok (.dup, 1) := by decide +kernel
theorem d_Mo_add_135 : decode (mcd M_Mo_add) 135 = .ok (.getfield 180, 3) := by decide +kernel
theorem d_Mo_add_138 : decode (mcd M_Mo_add) 138 = .ok (.iconst 1, 1) := by decide +kernel
theorem d_Mo_add_139 : decode (mcd M_Mo_add) 139 = .ok (.iadd, 1) := by decide +kernel
theorem d_Mo_add_140 : decode (mcd M_Mo_add) 140 = .ok (.putfield 180, 3) := by decide +kernel
theorem d_Mo_add_143 : decode (mcd M_Mo_add) 143 = .ok (.return_, 1) := by decide +kernel
theorem d_Mo_alike_0 : decode (mcd M_Mo_alike) 0 = .ok (.iconst 1, 1) := by decide +kernel
theorem d_Mo_alike_1 : decode (mcd M_Mo_alike) 1 = .ok (.istore 6, 2) := by decide +kernel
theorem d_Mo_alike_3 : decode (mcd M_Mo_alike) 3 = .ok (.iconst 0, 1) := by decide +kernel
theorem d_Mo_alike_4 : decode (mcd M_Mo_alike) 4 = .ok (.istore 7, 2) := by decide +kernel
theorem d_Mo_alike_6 : decode (mcd M_Mo_alike) 6 = .ok (.iload 7, 2) := by decide +kernel
theorem d_Mo_alike_8 : decode (mcd M_Mo_alike) 8 = .ok (.iload 5, 2) := by decide +kernel
theorem d_Mo_alike_10 : decode (mcd M_Mo_alike) 10 = .ok (.if_icmp .ge 37, 3) := by decide +kernel
theorem d_Mo_alike_13 : decode (mcd M_Mo_alike) 13 = .ok (.iload 6, 2) := by decide +kernel
theorem d_Mo_alike_15 : decode (mcd M_Mo_alike) 15 = .ok (.ifCond .eq 32, 3) := by decide +kernel
theorem d_Mo_alike_18 : decode (mcd M_Mo_alike) 18 = .ok (.aload_n 1, 1) := by decide +kernel
theorem d_Mo_alike_19 : decode (mcd M_Mo_alike) 19 = .ok (.iload_n 2, 1) := by decide +kernel
theorem d_Mo_alike_20 : decode (mcd M_Mo_alike) 20 = .ok (.iload 7, 2) := by decide +kernel
theorem d_Mo_alike_22 : decode (mcd M_Mo_alike) 22 = .ok (.iadd, 1) := by decide +kernel
theorem d_Mo_alike_23 : decode (mcd M_Mo_alike) 23 = .ok (.iaload, 1) := by decide +kernel
theorem d_Mo_alike_24 : decode (mcd M_Mo_alike) 24 = .ok (.aload_n 3, 1) := by decide +kernel
theorem d_Mo_alike_25 : decode (mcd M_Mo_alike) 25 = .ok (.iload 4, 2) := by decide +kernel
theorem d_Mo_alike_27 : decode (mcd M_Mo_alike) 27 = .ok (.iload 7, 2) := by decide +kernel
theorem d_Mo_alike_29 : decode (mcd M_Mo_alike) 29 = .ok (.iadd, 1) := by decide +kernel
theorem d_Mo_alike_30 : decode (mcd M_Mo_alike) 30 = .ok (.iaload, 1) := by decide +kernel
theorem d_Mo_alike_31 : decode (mcd M_Mo_alike) 31 = .ok (.if_icmp .ne 7, 3) := by decide +kernel
theorem d_Mo_alike_34 : decode (mcd M_Mo_alike) 34 = .ok (.iconst 1, 1) := by decide +kernel
theorem d_Mo_alike_35 : decode (mcd M_Mo_alike) 35 = .ok (.goto 4, 3) := by decide +kernel
theorem d_Mo_alike_38 : decode (mcd M_Mo_alike) 38 = .ok (.iconst 0, 1) := by decide +kernel
theorem d_Mo_alike_39 : decode (mcd M_Mo_alike) 39 = .ok (.istore 6, 2) := by decide +kernel
theorem d_Mo_alike_41 : decode (mcd M_Mo_alike) 41 = .ok (.iinc 7 1, 3) := by decide +kernel
theorem d_Mo_alike_44 : decode (mcd M_Mo_alike) 44 = .ok (.goto (-38), 3) := by decide +kernel
theorem d_Mo_alike_47 : decode (mcd M_Mo_alike) 47 = .ok (.iload 6, 2) := by decide +kernel
theorem d_Mo_alike_49 : decode (mcd M_Mo_alike) 49 = .ok (.ireturn, 1) := by decide +kernel
theorem d_Mo_areParts_0 : decode (mcd M_Mo_areParts) 0 = .ok (.iconst 1, 1) := by decide +kernel
theorem d_Mo_areParts_1 : decode (mcd M_Mo_areParts) 1 = .ok (.istore 6, 2) := by decide +kernel
theorem d_Mo_areParts_3 : decode (mcd M_Mo_areParts) 3 = .ok (.iload_n 2, 1) := by decide +kernel
theorem d_Mo_areParts_4 : decode (mcd M_Mo_areParts) 4 = .ok (.istore 7, 2) := by decide +kernel
theorem d_Mo_areParts_6 : decode (mcd M_Mo_areParts) 6 = .ok (.iload 4, 2) := by decide +kernel
theorem d_Mo_areParts_8 : decode (mcd M_Mo_areParts) 8 = .ok (.istore 8, 2) := by decide +kernel
theorem d_Mo_areParts_10 : decode (mcd M_Mo_areParts) 10 = .ok (.iconst 0, 1) := by decide +kernel
theorem d_Mo_areParts_11 : decode (mcd M_Mo_areParts) 11 = .ok (.istore 9, 2) := by decide +kernel
theorem d_Mo_areParts_13 : decode (mcd M_Mo_areParts) 13 = .ok (.iload 9, 2) := by decide +kernel
theorem d_Mo_areParts_15 : decode (mcd M_Mo_areParts) 15 = .ok (.iload 5, 2) := by decide +kernel
theorem d_Mo_areParts_17 : decode (mcd M_Mo_areParts) 17 = .ok (.if_icmp .ge 63, 3) := by decide +kernel
theorem d_Mo_areParts_20 : decode (mcd M_Mo_areParts) 20 = .ok (.iload 6, 2) := by decide +kernel
theorem d_Mo_areParts_22 : decode (mcd M_Mo_areParts) 22 = .ok (.ifCond .eq 58, 3) := by decide +kernel
theorem d_Mo_areParts_25 : decode (mcd M_Mo_areParts) 25 = .ok (.aload_n 0, 1) := by decide +kernel
theorem d_Mo_areParts_26 : decode (mcd M_Mo_areParts) 26 = .ok (.getfield 98, 3) := by decide +kernel
theorem d_Mo_areParts_29 : decode (mcd M_Mo_areParts) 29 = .ok (.bipush 40, 2) := by decide +kernel
theorem d_Mo_areParts_31 : decode (mcd M_Mo_areParts) 31 = .ok (.iload 7, 2) := by decide +kernel
theorem d_Mo_areParts_33 : decode (mcd M_Mo_areParts) 33 = .ok (.bipush 40, 2) := by decide +kernel
theorem d_Mo_areParts_35 : decode (mcd M_Mo_areParts) 35 = .ok (.iload_n 1, 1) := by decide +kernel
theorem d_Mo_areParts_36 : decode (mcd M_Mo_areParts) 36 = .ok (.imul, 1) := by decide +kernel
theorem d_Mo_areParts_37 : decode (mcd M_Mo_areParts) 37 = .ok (.isub, 1) := by decide +kernel
theorem d_Mo_areParts_38 : decode (mcd M_Mo_areParts) 38 = .ok (.imul, 1) := by decide +kernel
theorem d_Mo_areParts_39 : decode (mcd M_Mo_areParts) 39 = .ok (.iload 8, 2) := by decide +kernel
theorem d_Mo_areParts_41 : decode (mcd M_Mo_areParts) 41 = .ok (.iadd, 1) := by decide +kernel
theorem d_Mo_areParts_42 : decode (mcd M_Mo_areParts) 42 = .ok (.bipush 40, 2) := by decide +kernel
theorem d_Mo_areParts_44 : decode (mcd M_Mo_areParts) 44 = .ok (.iload_n 3, 1) := by decide +kernel
theorem d_Mo_areParts_45 : decode (mcd M_Mo_areParts) 45 = .ok (.imul, 1) := by decide +kernel
theorem d_Mo_areParts_46 : decode (mcd M_Mo_areParts) 46 = .ok (.isub, 1) := by decide +kernel
theorem d_Mo_areParts_47 : decode (mcd M_Mo_areParts) 47 = .ok (.baload, 1) := by decide +kernel
theorem d_Mo_areParts_48 : decode (mcd M_Mo_areParts) 48 = .ok (.istore 6, 2) := by decide +kernel
theorem d_Mo_areParts_50 : decode (mcd M_Mo_areParts) 50 = .ok (.aload_n 0, 1) := by decide +kernel
theorem d_Mo_areParts_51 : decode (mcd M_Mo_areParts) 51 = .ok (.aload_n 0, 1) := by decide +kernel
theorem d_Mo_areParts_52 : decode (mcd M_Mo_areParts) 52 = .ok (.getfield 41, 3) := by decide +kernel
theorem d_Mo_areParts_55 : decode (mcd M_Mo_areParts) 55 = .ok (.iload 7, 2) := by decide +kernel
theorem d_Mo_areParts_57 : decode (mcd M_Mo_areParts) 57 = .ok (.invokevirtual 164, 3) := by decide +kernel
theorem d_Mo_areParts_60 : decode (mcd M_Mo_areParts) 60 = .ok (.istore 7, 2) := by decide +kernel
theorem d_Mo_areParts_62 : decode (mcd M_Mo_areParts) 62 = .ok (.aload_n 0, 1) := by decide +kernel
theorem d_Mo_areParts_63 : decode (mcd M_Mo_areParts) 63 = .ok (.aload_n 0, 1) := by decide +kernel
theorem d_Mo_areParts_64 : decode (mcd M_Mo_areParts) 64 = .ok (.getfield 41, 3) := by decide +kernel
theorem d_Mo_areParts_67 : decode (mcd M_Mo_areParts) 67 = .ok (.iload 8, 2) := by decide +kernel
theorem d_Mo_areParts_69 : decode (mcd M_Mo_areParts) 69 = .ok (.invokevirtual 164, 3) := by decide +kernel
theorem d_Mo_areParts_72 : decode (mcd M_Mo_areParts) 72 = .ok (.istore 8, 2) := by decide +kernel
theorem d_Mo_areParts_74 : decode (mcd M_Mo_areParts) 74 = .ok (.iinc 9 1, 3) := by decide +kernel
theorem d_Mo_areParts_77 : decode (mcd M_Mo_areParts) 77 = .ok (.goto (-64), 3) := by decide +kernel
theorem d_Mo_areParts_80 : decode (mcd M_Mo_areParts) 80 = .ok (.iload 6, 2) := by decide +kernel
theorem d_Mo_areParts_82 : decode (mcd M_Mo_areParts) 82 = .ok (.ireturn, 1) := by decide +kernel
theorem d_Mo_becomes_0 : decode (mcd M_Mo_becomes) 0 = .ok (.aload_n 0, 1) := by decide +kernel
theorem d_Mo_becomes_1 : decode (mcd M_Mo_becomes) 1 = .ok (.getfield 35, 3) := by decide +kernel
theorem d_Mo_becomes_4 : decode (mcd M_Mo_becomes) 4 = .ok (.iload_n 1, 1) := by decide +kernel
theorem d_Mo_becomes_5 : decode (mcd M_Mo_becomes) 5 = .ok (.iload_n 2, 1) := by decide +kernel
theorem d_Mo_becomes_6 : decode (mcd M_Mo_becomes) 6 = .ok (.iastore, 1) := by decide +kernel
theorem d_Mo_becomes_7 : decode (mcd M_Mo_becomes) 7 = .ok (.aload_n 0, 1) := by decide +kernel
theorem d_Mo_becomes_8 : decode (mcd M_Mo_becomes) 8 = .ok (.getfield 50, 3) := by decide +kernel
theorem d_Mo_becomes_11 : decode (mcd M_Mo_becomes) 11 = .ok (.iload_n 1, 1) := by decide +kernel
theorem d_Mo_becomes_12 : decode (mcd M_Mo_becomes) 12 = .ok (.aload_n 0, 1) := by decide +kernel
theorem d_Mo_becomes_13 : decode (mcd M_Mo_becomes) 13 = .ok (.getfield 180, 3) := by decide +kernel
theorem d_Mo_becomes_16 : decode (mcd M_Mo_becomes) 16 = .ok (.iastore, 1) := by decide +kernel
theorem d_Mo_becomes_17 : decode (mcd M_Mo_becomes) 17 = .ok (.return_, 1) := by decide +kernel
theorem d_Mo_begin_0 : decode (mcd M_Mo_begin) 0 = .ok (.aload_n 0, 1) := by decide +kernel
theorem d_Mo_begin_1 : decode (mcd M_Mo_begin) 1 = .ok (.iconst 0, 1) := by decide +kernel
theorem d_Mo_begin_2 : decode (mcd M_Mo_begin) 2 = .ok (.putfield 157, 3) := by decide +kernel
theorem d_Mo_begin_5 : decode (mcd M_Mo_begin) 5 = .ok (.iload_n 1, 1) := by decide +kernel
theorem d_Mo_begin_6 : decode (mcd M_Mo_begin) 6 = .ok (.ifCond .eq 12, 3) := by decide +kernel
theorem d_Mo_begin_9 : decode (mcd M_Mo_begin) 9 = .ok (.aload_n 0, 1) := by decide +kernel
theorem d_Mo_begin_10 : decode (mcd M_Mo_begin) 10 = .ok (.getfield 77, 3) := by decide +kernel
theorem d_Mo_begin_13 : decode (mcd M_Mo_begin) 13 = .ok (.iconst 0, 1) := by decide +kernel
theorem d_Mo_begin_14 : decode (mcd M_Mo_begin) 14 = .ok (.iaload, 1) := by decide +kernel
theorem d_Mo_begin_15 : decode (mcd M_Mo_begin) 15 = .ok (.goto 7, 3) := by decide +kernel
theorem d_Mo_begin_18 : decode (mcd M_Mo_begin) 18 = .ok (.aload_n 0, 1) := by decide +kernel
theorem d_Mo_begin_19 : decode (mcd M_Mo_begin) 19 = .ok (.getfield 135, 3) := by decide +kernel
theorem d_Mo_begin_22 : decode (mcd M_Mo_begin) 22 = .ok (.istore_n 2, 1) := by decide +kernel
theorem d_Mo_begin_23 : decode (mcd M_Mo_begin) 23 = .ok (.iconst 0, 1) := by decide +kernel
theorem d_Mo_begin_24 : decode (mcd M_Mo_begin) 24 = .ok (.istore_n 3, 1) := by decide +kernel
theorem d_Mo_begin_25 : decode (mcd M_Mo_begin) 25 = .ok (.iload_n 3, 1) := by decide +kernel
theorem d_Mo_begin_26 : decode (mcd M_Mo_begin) 26 = .ok (.iload_n 2, 1) := by decide +kernel
theorem d_Mo_begin_27 : decode (mcd M_Mo_begin) 27 = .ok (.if_icmp .ge 88, 3) := by decide +kernel
theorem d_Mo_begin_30 : decode (mcd M_Mo_begin) 30 = .ok (.iload_n 1, 1) := by decide +kernel
theorem d_Mo_begin_31 : decode (mcd M_Mo_begin) 31 = .ok (.ifCond .eq 12, 3) := by decide +kernel
theorem d_Mo_begin_34 : decode (mcd M_Mo_begin) 34 = .ok (.aload_n 0, 1) := by decide +kernel
theorem d_Mo_begin_35 : decode (mcd M_Mo_begin) 35 = .ok (.getfield 74, 3) := by decide +kernel
theorem d_Mo_begin_38 : decode (mcd M_Mo_begin) 38 = .ok (.iload_n 3, 1) := by decide +kernel
theorem d_Mo_begin_39 : decode (mcd M_Mo_begin) 39 = .ok (.iaload, 1) := by decide +kernel
theorem d_Mo_begin_40 : decode (mcd M_Mo_begin) 40 = .ok (.goto 9, 3) := by decide +kernel
theorem d_Mo_begin_43 : decode (mcd M_Mo_begin) 43 = .ok (.aload_n 0, 1) := by decide +kernel
theorem d_Mo_begin_44 : decode (mcd M_Mo_begin) 44 = .ok (.getfield 26, 3) := by decide +kernel
theorem d_Mo_begin_47 : decode (mcd M_Mo_begin) 47 = .ok (.iload_n 3, 1) := by decide +kernel
theorem d_Mo_begin_48 : decode (mcd M_Mo_begin) 48 = .ok (.iaload, 1) := by decide +kernel
theorem d_Mo_begin_49 : decode (mcd M_Mo_begin) 49 = .ok (.istore 4, 2) := by decide +kernel
theorem d_Mo_begin_51 : decode (mcd M_Mo_begin) 51 = .ok (.iload 4, 2) := by decide +kernel
theorem d_Mo_begin_53 : decode (mcd M_Mo_begin) 53 = .ok (.bipush 100, 2) := by decide +kernel
theorem d_Mo_begin_55 : decode (mcd M_Mo_begin) 55 = .ok (.if_icmp .lt 9, 3) := by decide +kernel
theorem d_Mo_begin_58 : decode (mcd M_Mo_begin) 58 = .ok (.aload_n 0, 1) := by decide +kernel
theorem d_Mo_begin_59 : decode (mcd M_Mo_begin) 59 = .ok (.iload 4, 2) := by decide +kernel
theorem d_Mo_begin_61 : decode (mcd M_Mo_begin) 61 = .ok (.invokevirtual 272, 3) := by decide +kernel
theorem d_Mo_begin_64 : decode (mcd M_Mo_begin) 64 = .ok (.iconst 0, 1) := by decide +kernel
theorem d_Mo_begin_65 : decode (mcd M_Mo_begin) 65 = .ok (.istore 5, 2) := by decide +kernel
theorem d_Mo_begin_67 : decode (mcd M_Mo_begin) 67 = .ok (.iload 4, 2) := by decide +kernel
theorem d_Mo_begin_69 : decode (mcd M_Mo_begin) 69 = .ok (.bipush 100, 2) := by decide +kernel
theorem d_Mo_begin_71 : decode (mcd M_Mo_begin) 71 = .ok (.if_icmp .ge 38, 3) := by decide +kernel
theorem d_Mo_begin_74 : decode (mcd M_Mo_begin) 74 = .ok (.iload 5, 2) := by decide +kernel
theorem d_Mo_begin_76 : decode (mcd M_Mo_begin) 76 = .ok (.aload_n 0, 1) := by decide +kernel
theorem d_Mo_begin_77 : decode (mcd M_Mo_begin) 77 = .ok (.getfield 32, 3) := by decide +kernel
theorem d_Mo_begin_80 : decode (mcd M_Mo_begin) 80 = .ok (.iload 4, 2) := by decide +kernel
theorem d_Mo_begin_82 : decode (mcd M_Mo_begin) 82 = .ok (.iaload, 1) := by decide +kernel
theorem d_Mo_begin_83 : decode (mcd M_Mo_begin) 83 = .ok (.if_icmp .ge 26, 3) := by decide +kernel
theorem d_Mo_begin_86 : decode (mcd M_Mo_begin) 86 = .ok (.aload_n 0, 1) := by decide +kernel
theorem d_Mo_begin_87 : decode (mcd M_Mo_begin) 87 = .ok (.aload_n 0, 1) := by decide +kernel
theorem d_Mo_begin_88 : decode (mcd M_Mo_begin) 88 = .ok (.getfield 29, 3) := by decide +kernel
theorem d_Mo_begin_91 : decode (mcd M_Mo_begin) 91 = .ok (.bipush 24, 2) := by decide +kernel
theorem d_Mo_begin_93 : decode (mcd M_Mo_begin) 93 = .ok (.iload 4, 2) := by decide +kernel
theorem d_Mo_begin_95 : decode (mcd M_Mo_begin) 95 = .ok (.imul, 1) := by decide +kernel
theorem d_Mo_begin_96 : decode (mcd M_Mo_begin) 96 = .ok (.iload 5, 2) := by decide +kernel
theorem d_Mo_begin_98 : decode (mcd M_Mo_begin) 98 = .ok (.iadd, 1) := by decide +kernel
theorem d_Mo_begin_99 : decode (mcd M_Mo_begin) 99 = .ok (.iaload, 1) := by decide +kernel
theorem d_Mo_begin_100 : decode (mcd M_Mo_begin) 100 = .ok (.invokevirtual 272, 3) := by decide +kernel
theorem d_Mo_begin_103 : decode (mcd M_Mo_begin) 103 = .ok (.iinc 5 1, 3) := by decide +kernel
theorem d_Mo_begin_106 : decode (mcd M_Mo_begin) 106 = .ok (.goto (-39), 3) := by decide +kernel
theorem d_Mo_begin_109 : decode (mcd M_Mo_begin) 109 = .ok (.iinc 3 1, 3) := by decide +kernel
theorem d_Mo_begin_112 : decode (mcd M_Mo_begin) 112 = .ok (.goto (-87), 3) := by decide +kernel
theorem d_Mo_begin_115 : decode (mcd M_Mo_begin) 115 = .ok (.return_, 1) := by decide +kernel
theorem d_Mo_bind_0 : decode (mcd M_Mo_bind) 0 = .ok (.aload_n 0, 1) := by decide +kernel
theorem d_Mo_bind_1 : decode (mcd M_Mo_bind) 1 = .ok (.getfield 80, 3) := by decide +kernel
theorem d_Mo_bind_4 : decode (mcd M_Mo_bind) 4 = .ok (.iload_n 1, 1) := by decide +kernel
theorem d_Mo_bind_5 : decode (mcd M_Mo_bind) 5 = .ok (.iaload, 1) := by decide +kernel
theorem d_Mo_bind_6 : decode (mcd M_Mo_bind) 6 = .ok (.istore_n 3, 1) := by decide +kernel
theorem d_Mo_bind_7 : decode (mcd M_Mo_bind) 7 = .ok (.aload_n 0, 1) := by decide +kernel
theorem d_Mo_bind_8 : decode (mcd M_Mo_bind) 8 = .ok (.iload_n 3, 1) := by decide +kernel
theorem d_Mo_bind_9 : decode (mcd M_Mo_bind) 9 = .ok (.invokevirtual 160, 3) := by decide +kernel
theorem d_Mo_bind_12 : decode (mcd M_Mo_bind) 12 = .ok (.istore 4, 2) := by decide +kernel
theorem d_Mo_bind_14 : decode (mcd M_Mo_bind) 14 = .ok (.iload 4, 2) := by decide +kernel
theorem d_Mo_bind_16 : decode (mcd M_Mo_bind) 16 = .ok (.ifCond .eq 9, 3) := by decide +kernel
theorem d_Mo_bind_19 : decode (mcd M_Mo_bind) 19 = .ok (.iload_n 1, 1) := by decide +kernel
theorem d_Mo_bind_20 : decode (mcd M_Mo_bind) 20 = .ok (.iconst 2, 1) := by decide +kernel
theorem d_Mo_bind_21 : decode (mcd M_Mo_bind) 21 = .ok (.iadd, 1) := by decide +kernel
theorem d_Mo_bind_22 : decode (mcd M_Mo_bind) 22 = .ok (.goto 6, 3) := by decide +kernel
theorem d_Mo_bind_25 : decode (mcd M_Mo_bind) 25 = .ok (.iload_n 1, 1) := by decide +kernel
theorem d_Mo_bind_26 : decode (mcd M_Mo_bind) 26 = .ok (.iconst 1, 1) := by decide +kernel
theorem d_Mo_bind_27 : decode (mcd M_Mo_bind) 27 = .ok (.iadd, 1) := by decide +kernel
theorem d_Mo_bind_28 : decode (mcd M_Mo_bind) 28 = .ok (.istore 5, 2) := by decide +kernel
theorem d_Mo_bind_30 : decode (mcd M_Mo_bind) 30 = .ok (.iload 4, 2) := by decide +kernel
theorem d_Mo_bind_32 : decode (mcd M_Mo_bind) 32 = .ok (.ifCond .eq 17, 3) := by decide +kernel
theorem d_Mo_bind_35 : decode (mcd M_Mo_bind) 35 = .ok (.aload_n 0, 1) := by decide +kernel
theorem d_Mo_bind_36 : decode (mcd M_Mo_bind) 36 = .ok (.getfield 80, 3) := by decide +kernel
theorem d_Mo_bind_39 : decode (mcd M_Mo_bind) 39 = .ok (.iload_n 1, 1) := by decide +kernel
theorem d_Mo_bind_40 : decode (mcd M_Mo_bind) 40 = .ok (.iconst 1, 1) := by decide +kernel
theorem d_Mo_bind_41 : decode (mcd M_Mo_bind) 41 = .ok (.iadd, 1) := by decide +kernel
theorem d_Mo_bind_42 : decode (mcd M_Mo_bind) 42 = .ok (.iaload, 1) := by decide +kernel
theorem d_Mo_bind_43 : decode (mcd M_Mo_bind) 43 = .ok (.invokestatic 120, 3) := by decide +kernel
theorem d_Mo_bind_46 : decode (mcd M_Mo_bind) 46 = .ok (.goto 4, 3) := by decide +kernel
theorem d_Mo_bind_49 : decode (mcd M_Mo_bind) 49 = .ok (.iconst 0, 1) := by decide +kernel
theorem d_Mo_bind_50 : decode (mcd M_Mo_bind) 50 = .ok (.istore 6, 2) := by decide +kernel
theorem d_Mo_bind_52 : decode (mcd M_Mo_bind) 52 = .ok (.iload_n 3, 1) := by decide +kernel
theorem d_Mo_bind_53 : decode (mcd M_Mo_bind) 53 = .ok (.sipush 300, 3) := by decide +kernel
theorem d_Mo_bind_56 : decode (mcd M_Mo_bind) 56 = .ok (.if_icmp .ge 7, 3) := by decide +kernel
theorem d_Mo_bind_59 : decode (mcd M_Mo_bind) 59 = .ok (.iconst 1, 1) := by decide +kernel
theorem d_Mo_bind_60 : decode (mcd M_Mo_bind) 60 = .ok (.goto 4, 3) := by decide +kernel
theorem d_Mo_bind_63 : decode (mcd M_Mo_bind) 63 = .ok (.iconst 0, 1) := by decide +kernel
theorem d_Mo_bind_64 : decode (mcd M_Mo_bind) 64 = .ok (.istore 7, 2) := by decide +kernel
theorem d_Mo_bind_66 : decode (mcd M_Mo_bind) 66 = .ok (.iconst 0, 1) := by decide +kernel
theorem d_Mo_bind_67 : decode (mcd M_Mo_bind) 67 = .ok (.istore 8, 2) := by decide +kernel
theorem d_Mo_bind_69 : decode (mcd M_Mo_bind) 69 = .ok (.iload 8, 2) := by decide +kernel
theorem d_Mo_bind_71 : decode (mcd M_Mo_bind) 71 = .ok (.iload 6, 2) := by decide +kernel
theorem d_Mo_bind_73 : decode (mcd M_Mo_bind) 73 = .ok (.if_icmp .ge 36, 3) := by decide +kernel
theorem d_Mo_bind_76 : decode (mcd M_Mo_bind) 76 = .ok (.aload_n 0, 1) := by decide +kernel
theorem d_Mo_bind_77 : decode (mcd M_Mo_bind) 77 = .ok (.iload 7, 2) := by decide +kernel
theorem d_Mo_bind_79 : decode (mcd M_Mo_bind) 79 = .ok (.ifCond .eq 8, 3) := by decide +kernel
theorem d_Mo_bind_82 : decode (mcd M_Mo_bind) 82 = .ok (.iload 8, 2) := by decide +kernel
theorem d_Mo_bind_84 : decode (mcd M_Mo_bind) 84 = .ok (.goto 12, 3) := by decide +kernel
theorem d_Mo_bind_87 : decode (mcd M_Mo_bind) 87 = .ok (.aload_n 0, 1) := by decide +kernel
theorem d_Mo_bind_88 : decode (mcd M_Mo_bind) 88 = .ok (.getfield 62, 3) := by decide +kernel
theorem d_Mo_bind_91 : decode (mcd M_Mo_bind) 91 = .ok (.iload_n 2, 1) := by decide +kernel
theorem d_Mo_bind_92 : decode (mcd M_Mo_bind) 92 = .ok (.iaload, 1) := by decide +kernel
theorem d_Mo_bind_93 : decode (mcd M_Mo_bind) 93 = .ok (.iload 8, 2) := by decide +kernel
theorem d_Mo_bind_95 : decode (mcd M_Mo_bind) 95 = .ok (.iadd, 1) := by decide +kernel
theorem d_Mo_bind_96 : decode (mcd M_Mo_bind) 96 = .ok (.iload 5, 2) := by decide +kernel
theorem d_Mo_bind_98 : decode (mcd M_Mo_bind) 98 = .ok (.invokevirtual 167, 3) := by decide +kernel
theorem d_Mo_bind_101 : decode (mcd M_Mo_bind) 101 = .ok (.istore 5, 2) := by decide +kernel
theorem d_Mo_bind_103 : decode (mcd M_Mo_bind) 103 = .ok (.iinc 8 1, 3) := by decide +kernel
theorem d_Mo_bind_106 : decode (mcd M_Mo_bind) 106 = .ok (.goto (-37), 3) := by decide +kernel
theorem d_Mo_bind_109 : decode (mcd M_Mo_bind) 109 = .ok (.iload 4, 2) := by decide +kernel
theorem d_Mo_bind_111 : decode (mcd M_Mo_bind) 111 = .ok (.ifCond .eq 7, 3) := by decide +kernel
theorem d_Mo_bind_114 : decode (mcd M_Mo_bind) 114 = .ok (.iconst 1, 1) := by decide +kernel
theorem d_Mo_bind_115 : decode (mcd M_Mo_bind) 115 = .ok (.goto 4, 3) := by decide +kernel
theorem d_Mo_bind_118 : decode (mcd M_Mo_bind) 118 = .ok (.iconst 0, 1) := by decide +kernel
theorem d_Mo_bind_119 : decode (mcd M_Mo_bind) 119 = .ok (.istore 8, 2) := by decide +kernel
theorem d_Mo_bind_121 : decode (mcd M_Mo_bind) 121 = .ok (.iload 8, 2) := by decide +kernel
theorem d_Mo_bind_123 : decode (mcd M_Mo_bind) 123 = .ok (.istore 9, 2) := by decide +kernel
theorem d_Mo_bind_125 : decode (mcd M_Mo_bind) 125 = .ok (.iload 9, 2) := by decide +kernel
theorem d_Mo_bind_127 : decode (mcd M_Mo_bind) 127 = .ok (.aload_n 0, 1) := by decide +kernel
theorem d_Mo_bind_128 : decode (mcd M_Mo_bind) 128 = .ok (.iload_n 3, 1) := by decide +kernel
theorem d_Mo_bind_129 : decode (mcd M_Mo_bind) 129 = .ok (.invokevirtual 124, 3) := by decide +kernel
theorem d_Mo_bind_132 : decode (mcd M_Mo_bind) 132 = .ok (.if_icmp .ge 49, 3) := by decide +kernel
theorem d_Mo_bind_135 : decode (mcd M_Mo_bind) 135 = .ok (.aload_n 0, 1) := by decide +kernel
theorem d_Mo_bind_136 : decode (mcd M_Mo_bind) 136 = .ok (.iload 7, 2) := by decide +kernel
theorem d_Mo_bind_138 : decode (mcd M_Mo_bind) 138 = .ok (.ifCond .eq 14, 3) := by decide +kernel
theorem d_Mo_bind_141 : decode (mcd M_Mo_bind) 141 = .ok (.iload 6, 2) := by decide +kernel
theorem d_Mo_bind_143 : decode (mcd M_Mo_bind) 143 = .ok (.iload 9, 2) := by decide +kernel
theorem d_Mo_bind_145 : decode (mcd M_Mo_bind) 145 = .ok (.iadd, 1) := by decide +kernel
theorem d_Mo_bind_146 : decode (mcd M_Mo_bind) 146 = .ok (.iload 8, 2) := by decide +kernel
theorem d_Mo_bind_148 : decode (mcd M_Mo_bind) 148 = .ok (.isub, 1) := by decide +kernel
theorem d_Mo_bind_149 : decode (mcd M_Mo_bind) 149 = .ok (.goto 19, 3) := by decide +kernel
theorem d_Mo_bind_152 : decode (mcd M_Mo_bind) 152 = .ok (.aload_n 0, 1) := by decide +kernel
theorem d_Mo_bind_153 : decode (mcd M_Mo_bind) 153 = .ok (.getfield 68, 3) := by decide +kernel
theorem d_Mo_bind_156 : decode (mcd M_Mo_bind) 156 = .ok (.bipush 40, 2) := by decide +kernel
theorem d_Mo_bind_158 : decode (mcd M_Mo_bind) 158 = .ok (.iload_n 3, 1) := by decide +kernel
theorem d_Mo_bind_159 : decode (mcd M_Mo_bind) 159 = .ok (.sipush 300, 3) := by decide +kernel
theorem d_Mo_bind_162 : decode (mcd M_Mo_bind) 162 = .ok (.isub, 1) := by decide +kernel
theorem d_Mo_bind_163 : decode (mcd M_Mo_bind) 163 = .ok (.imul, 1) := by decide +kernel
theorem d_Mo_bind_164 : decode (mcd M_Mo_bind) 164 = .ok (.iload 9, 2) := by decide +kernel
theorem d_Mo_bind_166 : decode (mcd M_Mo_bind) 166 = .ok (.iadd, 1) := by decide +kernel
theorem d_Mo_bind_167 : decode (mcd M_Mo_bind) 167 = .ok (.iaload, 1) := by decide +kernel
theorem d_Mo_bind_168 : decode (mcd M_Mo_bind) 168 = .ok (.iload 5, 2) := by decide +kernel
theorem d_Mo_bind_170 : decode (mcd M_Mo_bind) 170 = .ok (.invokevirtual 167, 3) := by decide +kernel
theorem d_Mo_bind_173 : decode (mcd M_Mo_bind) 173 = .ok (.istore 5, 2) := by decide +kernel
theorem d_Mo_bind_175 : decode (mcd M_Mo_bind) 175 = .ok (.iinc 9 1, 3) := by decide +kernel
theorem d_Mo_bind_178 : decode (mcd M_Mo_bind) 178 = .ok (.goto (-53), 3) := by decide +kernel
theorem d_Mo_bind_181 : decode (mcd M_Mo_bind) 181 = .ok (.iload 5, 2) := by decide +kernel
theorem d_Mo_bind_183 : decode (mcd M_Mo_bind) 183 = .ok (.ireturn, 1) := by decide +kernel
theorem d_Mo_body_0 : decode (mcd M_Mo_body) 0 = .ok (.iload_n 1, 1) := by decide +kernel
theorem d_Mo_body_1 : decode (mcd M_Mo_body) 1 = .ok (.ifCond .lt 18, 3) := by decide +kernel
theorem d_Mo_body_4 : decode (mcd M_Mo_body) 4 = .ok (.iload_n 1, 1) := by decide +kernel
theorem d_Mo_body_5 : decode (mcd M_Mo_body) 5 = .ok (.bipush 7, 2) := by decide +kernel
theorem d_Mo_body_7 : decode (mcd M_Mo_body) 7 = .ok (.if_icmp .gt 12, 3) := by decide +kernel
theorem d_Mo_body_10 : decode (mcd M_Mo_body) 10 = .ok (.aload_n 0, 1) := by decide +kernel
theorem d_Mo_body_11 : decode (mcd M_Mo_body) 11 = .ok (.getfield 13, 3) := by decide +kernel
theorem d_Mo_body_14 : decode (mcd M_Mo_body) 14 = .ok (.iload_n 1, 1) := by decide +kernel
theorem d_Mo_body_15 : decode (mcd M_Mo_body) 15 = .ok (.iaload, 1) := by decide +kernel
theorem d_Mo_body_16 : decode (mcd M_Mo_body) 16 = .ok (.ifCond .ne 7, 3) := by decide +kernel
theorem d_Mo_body_19 : decode (mcd M_Mo_body) 19 = .ok (.iconst 1, 1) := by decide +kernel
theorem d_Mo_body_20 : decode (mcd M_Mo_body) 20 = .ok (.goto 4, 3) := by decide +kernel
theorem d_Mo_body_23 : decode (mcd M_Mo_body) 23 = .ok (.iconst 0, 1) := by decide +kernel
theorem d_Mo_body_24 : decode (mcd M_Mo_body) 24 = .ok (.istore_n 3, 1) := by decide +kernel
theorem d_Mo_body_25 : decode (mcd M_Mo_body) 25 = .ok (.iload_n 3, 1) := by decide +kernel
theorem d_Mo_body_26 : decode (mcd M_Mo_body) 26 = .ok (.ifCond .ne 34, 3) := by decide +kernel
theorem d_Mo_body_29 : decode (mcd M_Mo_body) 29 = .ok (.aload_n 0, 1) := by decide +kernel
theorem d_Mo_body_30 : decode (mcd M_Mo_body) 30 = .ok (.getfield 16, 3) := by decide +kernel
theorem d_Mo_body_33 : decode (mcd M_Mo_body) 33 = .ok (.iload_n 1, 1) := by decide +kernel
theorem d_Mo_body_34 : decode (mcd M_Mo_body) 34 = .ok (.baload, 1) := by decide +kernel
theorem d_Mo_body_35 : decode (mcd M_Mo_body) 35 = .ok (.ifCond .eq 16, 3) := by decide +kernel
theorem d_Mo_body_38 : decode (mcd M_Mo_body) 38 = .ok (.iload_n 2, 1) := by decide +kernel
theorem d_Mo_body_39 : decode (mcd M_Mo_body) 39 = .ok (.ifCond .lt 21, 3) := by decide +kernel
theorem d_Mo_body_42 : decode (mcd M_Mo_body) 42 = .ok (.iload_n 2, 1) := by decide +kernel
theorem d_Mo_body_43 : decode (mcd M_Mo_body) 43 = .ok (.bipush 6, 2) := by decide +kernel
theorem d_Mo_body_45 : decode (mcd M_Mo_body) 45 = .ok (.if_icmp .ge 15, 3) := by decide +kernel
theorem d_Mo_body_48 : decode (mcd M_Mo_body) 48 = .ok (.goto 8, 3) := by decide +kernel
theorem d_Mo_body_51 : decode (mcd M_Mo_body) 51 = .ok (.iload_n 2, 1) := by decide +kernel
theorem d_Mo_body_52 : decode (mcd M_Mo_body) 52 = .ok (.iconst (-1), 1) := by decide +kernel
theorem d_Mo_body_53 : decode (mcd M_Mo_body) 53 = .ok (.if_icmp .ne 7, 3) := by decide +kernel
theorem d_Mo_body_56 : decode (mcd M_Mo_body) 56 = .ok (.iconst 1, 1) := by decide +kernel
theorem d_Mo_body_57 : decode (mcd M_Mo_body) 57 = .ok (.goto 4, 3) := by decide +kernel
theorem d_Mo_body_60 : decode (mcd M_Mo_body) 60 = .ok (.iconst 0, 1) := by decide +kernel
theorem d_Mo_body_61 : decode (mcd M_Mo_body) 61 = .ok (.istore 4, 2) := by decide +kernel
theorem d_Mo_body_63 : decode (mcd M_Mo_body) 63 = .ok (.aload_n 0, 1) := by decide +kernel
theorem d_Mo_body_64 : decode (mcd M_Mo_body) 64 = .ok (.iload_n 3, 1) := by decide +kernel
theorem d_Mo_body_65 : decode (mcd M_Mo_body) 65 = .ok (.iload 4, 2) := by decide +kernel
theorem d_Mo_body_67 : decode (mcd M_Mo_body) 67 = .ok (.ifCond .eq 45, 3) := by decide +kernel
theorem d_Mo_body_70 : decode (mcd M_Mo_body) 70 = .ok (.aload_n 0, 1) := by decide +kernel
theorem d_Mo_body_71 : decode (mcd M_Mo_body) 71 = .ok (.aload_n 0, 1) := by decide +kernel
theorem d_Mo_body_72 : decode (mcd M_Mo_body) 72 = .ok (.getfield 16, 3) := by decide +kernel
theorem d_Mo_body_75 : decode (mcd M_Mo_body) 75 = .ok (.iload_n 1, 1) := by decide +kernel
theorem d_Mo_body_76 : decode (mcd M_Mo_body) 76 = .ok (.baload, 1) := by decide +kernel
theorem d_Mo_body_77 : decode (mcd M_Mo_body) 77 = .ok (.ifCond .eq 22, 3) := by decide +kernel
theorem d_Mo_body_80 : decode (mcd M_Mo_body) 80 = .ok (.bipush 100, 2) := by decide +kernel
theorem d_Mo_body_82 : decode (mcd M_Mo_body) 82 = .ok (.iload_n 2, 1) := by decide +kernel
theorem d_Mo_body_83 : decode (mcd M_Mo_body) 83 = .ok (.iadd, 1) := by decide +kernel
theorem d_Mo_body_84 : decode (mcd M_Mo_body) 84 = .ok (.invokestatic 120, 3) := by decide +kernel
theorem d_Mo_body_87 : decode (mcd M_Mo_body) 87 = .ok (.aload_n 0, 1) := by decide +kernel
theorem d_Mo_body_88 : decode (mcd M_Mo_body) 88 = .ok (.getfield 13, 3) := by decide +kernel
theorem d_Mo_body_91 : decode (mcd M_Mo_body) 91 = .ok (.iload_n 1, 1) := by decide +kernel
theorem d_Mo_body_92 : decode (mcd M_Mo_body) 92 = .ok (.iaload, 1) := by decide +kernel
theorem d_Mo_body_93 : decode (mcd M_Mo_body) 93 = .ok (.iadd, 1) := by decide +kernel
theorem d_Mo_body_94 : decode (mcd M_Mo_body) 94 = .ok (.iconst 1, 1) := by decide +kernel
theorem d_Mo_body_95 : decode (mcd M_Mo_body) 95 = .ok (.isub, 1) := by decide +kernel
theorem d_Mo_body_96 : decode (mcd M_Mo_body) 96 = .ok (.goto 9, 3) := by decide +kernel
theorem d_Mo_body_99 : decode (mcd M_Mo_body) 99 = .ok (.aload_n 0, 1) := by decide +kernel
theorem d_Mo_body_100 : decode (mcd M_Mo_body) 100 = .ok (.getfield 13, 3) := by decide +kernel
theorem d_Mo_body_103 : decode (mcd M_Mo_body) 103 = .ok (.iload_n 1, 1) := by decide +kernel
theorem d_Mo_body_104 : decode (mcd M_Mo_body) 104 = .ok (.iaload, 1) := by decide +kernel
theorem d_Mo_body_105 : decode (mcd M_Mo_body) 105 = .ok (.iconst 1, 1) := by decide +kernel
theorem d_Mo_body_106 : decode (mcd M_Mo_body) 106 = .ok (.invokevirtual 149, 3) := by decide +kernel
theorem d_Mo_body_109 : decode (mcd M_Mo_body) 109 = .ok (.ifCond .ne 7, 3) := by decide +kernel
theorem d_Mo_body_112 : decode (mcd M_Mo_body) 112 = .ok (.iconst 1, 1) := by decide +kernel
theorem d_Mo_body_113 : decode (mcd M_Mo_body) 113 = .ok (.goto 4, 3) := by decide +kernel
theorem d_Mo_body_116 : decode (mcd M_Mo_body) 116 = .ok (.iconst 0, 1) := by decide +kernel
theorem d_Mo_body_117 : decode (mcd M_Mo_body) 117 = .ok (.invokevirtual 145, 3) := by decide +kernel
theorem d_Mo_body_120 : decode (mcd M_Mo_body) 120 = .ok (.ifCond .eq 4, 3) := by decide +kernel
theorem d_Mo_body_123 : decode (mcd M_Mo_body) 123 = .ok (.return_, 1) := by decide +kernel
theorem d_Mo_body_124 : decode (mcd M_Mo_body) 124 = .ok (.bipush 7, 2) := by decide +kernel
theorem d_Mo_body_126 : decode (mcd M_Mo_body) 126 = .ok (.iload_n 1, 1) := by decide +kernel
theorem d_Mo_body_127 : decode (mcd M_Mo_body) 127 = .ok (.imul, 1) := by decide +kernel
theorem d_Mo_body_128 : decode (mcd M_Mo_body) 128 = .ok (.aload_n 0, 1) := by decide +kernel
theorem d_Mo_body_129 : decode (mcd M_Mo_body) 129 = .ok (.getfield 16, 3) := by decide +kernel
theorem d_Mo_body_132 : decode (mcd M_Mo_body) 132 = .ok (.iload_n 1, 1) := by decide +kernel
theorem d_Mo_body_133 : decode (mcd M_Mo_body) 133 = .ok (.baload, 1) := by decide +kernel
theorem d_Mo_body_134 : decode (mcd M_Mo_body) 134 = .ok (.ifCond .eq 7, 3) := by decide +kernel
theorem d_Mo_body_137 : decode (mcd M_Mo_body) 137 = .ok (.iload_n 2, 1) := by decide +kernel
theorem d_Mo_body_138 : decode (mcd M_Mo_body) 138 = .ok (.goto 5, 3) := by decide +kernel
theorem d_Mo_body_141 : decode (mcd M_Mo_body) 141 = .ok (.bipush 6, 2) := by decide +kernel
theorem d_Mo_body_143 : decode (mcd M_Mo_body) 143 = .ok (.iadd, 1) := by decide +kernel
theorem d_Mo_body_144 : decode (mcd M_Mo_body) 144 = .ok (.istore 5, 2) := by decide +kernel
theorem d_Mo_body_146 : decode (mcd M_Mo_body) 146 = .ok (.aload_n 0, 1) := by decide +kernel
theorem d_Mo_body_147 : decode (mcd M_Mo_body) 147 = .ok (.getfield 23, 3) := by decide +kernel
theorem d_Mo_body_150 : decode (mcd M_Mo_body) 150 = .ok (.iload 5, 2) := by decide +kernel
theorem d_Mo_body_152 : decode (mcd M_Mo_body) 152 = .ok (.aload_n 0, 1) := by decide +kernel
theorem d_Mo_body_153 : decode (mcd M_Mo_body) 153 = .ok (.aload_n 0, 1) := by decide +kernel
theorem d_Mo_body_154 : decode (mcd M_Mo_body) 154 = .ok (.getfield 20, 3) := by decide +kernel
theorem d_Mo_body_157 : decode (mcd M_Mo_body) 157 = .ok (.bipush 24, 2) := by decide +kernel
theorem d_Mo_body_159 : decode (mcd M_Mo_body) 159 = .ok (.iload 5, 2) := by decide +kernel
theorem d_Mo_body_161 : decode (mcd M_Mo_body) 161 = .ok (.imul, 1) := by decide +kernel
theorem d_Mo_body_162 : decode (mcd M_Mo_body) 162 = .ok (.invokevirtual 153, 3) := by decide +kernel
theorem d_Mo_body_165 : decode (mcd M_Mo_body) 165 = .ok (.iastore, 1) := by decide +kernel
theorem d_Mo_body_166 : decode (mcd M_Mo_body) 166 = .ok (.aload_n 0, 1) := by decide +kernel
theorem d_Mo_body_167 : decode (mcd M_Mo_body) 167 = .ok (.iconst 0, 1) := by decide +kernel
theorem d_Mo_body_168 : decode (mcd M_Mo_body) 168 = .ok (.putfield 138, 3) := by decide +kernel
theorem d_Mo_body_171 : decode (mcd M_Mo_body) 171 = .ok (.return_, 1) := by decide +kernel
theorem d_Mo_bodyOf_0 : decode (mcd M_Mo_bodyOf) 0 = .ok (.aload_n 0, 1) := by decide +kernel
theorem d_Mo_bodyOf_1 : decode (mcd M_Mo_bodyOf) 1 = .ok (.getfield 80, 3) := by decide +kernel
theorem d_Mo_bodyOf_4 : decode (mcd M_Mo_bodyOf) 4 = .ok (.iload_n 1, 1) := by decide +kernel
theorem d_Mo_bodyOf_5 : decode (mcd M_Mo_bodyOf) 5 = .ok (.iaload, 1) := by decide +kernel
theorem d_Mo_bodyOf_6 : decode (mcd M_Mo_bodyOf) 6 = .ok (.istore_n 2, 1) := by decide +kernel
theorem d_Mo_bodyOf_7 : decode (mcd M_Mo_bodyOf) 7 = .ok (.iload_n 2, 1) := by decide +kernel
theorem d_Mo_bodyOf_8 : decode (mcd M_Mo_bodyOf) 8 = .ok (.sipush 400, 3) := by decide +kernel
theorem d_Mo_bodyOf_11 : decode (mcd M_Mo_bodyOf) 11 = .ok (.if_icmp .ne 5, 3) := by decide +kernel
theorem d_Mo_bodyOf_14 : decode (mcd M_Mo_bodyOf) 14 = .ok (.iconst (-1), 1) := by decide +kernel
theorem d_Mo_bodyOf_15 : decode (mcd M_Mo_bodyOf) 15 = .ok (.ireturn, 1) := by decide +kernel
theorem d_Mo_bodyOf_16 : decode (mcd M_Mo_bodyOf) 16 = .ok (.iload_n 2, 1) := by decide +kernel
theorem d_Mo_bodyOf_17 : decode (mcd M_Mo_bodyOf) 17 = .ok (.sipush 300, 3) := by decide +kernel
theorem d_Mo_bodyOf_20 : decode (mcd M_Mo_bodyOf) 20 = .ok (.if_icmp .ge 67, 3) := by decide +kernel
theorem d_Mo_bodyOf_23 : decode (mcd M_Mo_bodyOf) 23 = .ok (.aload_n 0, 1) := by decide +kernel
theorem d_Mo_bodyOf_24 : decode (mcd M_Mo_bodyOf) 24 = .ok (.iload_n 2, 1) := by decide +kernel
theorem d_Mo_bodyOf_25 : decode (mcd M_Mo_bodyOf) 25 = .ok (.invokevirtual 160, 3) := by decide +kernel
theorem d_Mo_bodyOf_28 : decode (mcd M_Mo_bodyOf) 28 = .ok (.ifCond .eq 17, 3) := by decide +kernel
theorem d_Mo_bodyOf_31 : decode (mcd M_Mo_bodyOf) 31 = .ok (.aload_n 0, 1) := by decide +kernel
theorem d_Mo_bodyOf_32 : decode (mcd M_Mo_bodyOf) 32 = .ok (.getfield 80, 3) := by decide +kernel
theorem d_Mo_bodyOf_35 : decode (mcd M_Mo_bodyOf) 35 = .ok (.iload_n 1, 1) := by decide +kernel
theorem d_Mo_bodyOf_36 : decode (mcd M_Mo_bodyOf) 36 = .ok (.iconst 1, 1) := by decide +kernel
theorem d_Mo_bodyOf_37 : decode (mcd M_Mo_bodyOf) 37 = .ok (.iadd, 1) := by decide +kernel
theorem d_Mo_bodyOf_38 : decode (mcd M_Mo_bodyOf) 38 = .ok (.iaload, 1) := by decide +kernel
theorem d_Mo_bodyOf_39 : decode (mcd M_Mo_bodyOf) 39 = .ok (.bipush 100, 2) := by decide +kernel
theorem d_Mo_bodyOf_41 : decode (mcd M_Mo_bodyOf) 41 = .ok (.isub, 1) := by decide +kernel
theorem d_Mo_bodyOf_42 : decode (mcd M_Mo_bodyOf) 42 = .ok (.goto 5, 3) := by decide +kernel
theorem d_Mo_bodyOf_45 : decode (mcd M_Mo_bodyOf) 45 = .ok (.bipush 6, 2) := by decide +kernel
theorem d_Mo_bodyOf_47 : decode (mcd M_Mo_bodyOf) 47 = .ok (.istore_n 3, 1) := by decide +kernel
theorem d_Mo_bodyOf_48 : decode (mcd M_Mo_bodyOf) 48 = .ok (.bipush 7, 2) := by decide +kernel
theorem d_Mo_bodyOf_50 : decode (mcd M_Mo_bodyOf) 50 = .ok (.iload_n 2, 1) := by decide +kernel
theorem d_Mo_bodyOf_51 : decode (mcd M_Mo_bodyOf) 51 = .ok (.sipush 200, 3) := by decide +kernel
theorem d_Mo_bodyOf_54 : decode (mcd M_Mo_bodyOf) 54 = .ok (.isub, 1) := by decide +kernel
theorem d_Mo_bodyOf_55 : decode (mcd M_Mo_bodyOf) 55 = .ok (.imul, 1) := by decide +kernel
theorem d_Mo_bodyOf_56 : decode (mcd M_Mo_bodyOf) 56 = .ok (.iload_n 3, 1) := by decide +kernel
theorem d_Mo_bodyOf_57 : decode (mcd M_Mo_bodyOf) 57 = .ok (.iadd, 1) := by decide +kernel
theorem d_Mo_bodyOf_58 : decode (mcd M_Mo_bodyOf) 58 = .ok (.istore 4, 2) := by decide +kernel
theorem d_Mo_bodyOf_60 : decode (mcd M_Mo_bodyOf) 60 = .ok (.iload_n 3, 1) := by decide +kernel
theorem d_Mo_bodyOf_61 : decode (mcd M_Mo_bodyOf) 61 = .ok (.ifCond .lt 24, 3) := by decide +kernel
theorem d_Mo_bodyOf_64 : decode (mcd M_Mo_bodyOf) 64 = .ok (.iload_n 3, 1) := by decide +kernel
theorem d_Mo_bodyOf_65 : decode (mcd M_Mo_bodyOf) 65 = .ok (.bipush 6, 2) := by decide +kernel
theorem d_Mo_bodyOf_67 : decode (mcd M_Mo_bodyOf) 67 = .ok (.if_icmp .gt 18, 3) := by decide +kernel
theorem d_Mo_bodyOf_70 : decode (mcd M_Mo_bodyOf) 70 = .ok (.aload_n 0, 1) := by decide +kernel
theorem d_Mo_bodyOf_71 : decode (mcd M_Mo_bodyOf) 71 = .ok (.getfield 23, 3) := by decide +kernel
theorem d_Mo_bodyOf_74 : decode (mcd M_Mo_bodyOf) 74 = .ok (.iload 4, 2) := by decide +kernel
theorem d_Mo_bodyOf_76 : decode (mcd M_Mo_bodyOf) 76 = .ok (.iaload, 1) := by decide +kernel
theorem d_Mo_bodyOf_77 : decode (mcd M_Mo_bodyOf) 77 = .ok (.ifCond .le 8, 3) := by decide +kernel
theorem d_Mo_bodyOf_80 : decode (mcd M_Mo_bodyOf) 80 = .ok (.iload 4, 2) := by decide +kernel
theorem d_Mo_bodyOf_82 : decode (mcd M_Mo_bodyOf) 82 = .ok (.goto 4, 3) := by decide +kernel
theorem d_Mo_bodyOf_85 : decode (mcd M_Mo_bodyOf) 85 = .ok (.iconst (-1), 1) := by decide +kernel
theorem d_Mo_bodyOf_86 : decode (mcd M_Mo_bodyOf) 86 = .ok (.ireturn, 1) := by decide +kernel
theorem d_Mo_bodyOf_87 : decode (mcd M_Mo_bodyOf) 87 = .ok (.iload_n 2, 1) := by decide +kernel
theorem d_Mo_bodyOf_88 : decode (mcd M_Mo_bodyOf) 88 = .ok (.sipush 300, 3) := by decide +kernel
theorem d_Mo_bodyOf_91 : decode (mcd M_Mo_bodyOf) 91 = .ok (.isub, 1) := by decide +kernel
theorem d_Mo_bodyOf_92 : decode (mcd M_Mo_bodyOf) 92 = .ok (.istore_n 3, 1) := by decide +kernel
theorem d_Mo_bodyOf_93 : decode (mcd M_Mo_bodyOf) 93 = .ok (.aload_n 0, 1) := by decide +kernel
theorem d_Mo_bodyOf_94 : decode (mcd M_Mo_bodyOf) 94 = .ok (.getfield 35, 3) := by decide +kernel
theorem d_Mo_bodyOf_97 : decode (mcd M_Mo_bodyOf) 97 = .ok (.iload_n 3, 1) := by decide +kernel
theorem d_Mo_bodyOf_98 : decode (mcd M_Mo_bodyOf) 98 = .ok (.iaload, 1) := by decide +kernel
theorem d_Mo_bodyOf_99 : decode (mcd M_Mo_bodyOf) 99 = .ok (.iconst 3, 1) := by decide +kernel
theorem d_Mo_bodyOf_100 : decode (mcd M_Mo_bodyOf) 100 = .ok (.if_icmp .ne 10, 3) := by decide +kernel
theorem d_Mo_bodyOf_103 : decode (mcd M_Mo_bodyOf) 103 = .ok (.aload_n 0, 1) := by decide +kernel
theorem d_Mo_bodyOf_104 : decode (mcd M_Mo_bodyOf) 104 = .ok (.getfield 50, 3) := by decide +kernel
theorem d_Mo_bodyOf_107 : decode (mcd M_Mo_bodyOf) 107 = .ok (.iload_n 3, 1) := by decide +kernel
theorem d_Mo_bodyOf_108 : decode (mcd M_Mo_bodyOf) 108 = .ok (.iaload, 1) := by decide +kernel
theorem d_Mo_bodyOf_109 : decode (mcd M_Mo_bodyOf) 109 = .ok (.ireturn, 1) := by decide +kernel
theorem d_Mo_bodyOf_110 : decode (mcd M_Mo_bodyOf) 110 = .ok (.aload_n 0, 1) := by decide +kernel
theorem d_Mo_bodyOf_111 : decode (mcd M_Mo_bodyOf) 111 = .ok (.getfield 50, 3) := by decide +kernel
theorem d_Mo_bodyOf_114 : decode (mcd M_Mo_bodyOf) 114 = .ok (.iload_n 3, 1) := by decide +kernel
theorem d_Mo_bodyOf_115 : decode (mcd M_Mo_bodyOf) 115 = .ok (.iaload, 1) := by decide +kernel
theorem d_Mo_bodyOf_116 : decode (mcd M_Mo_bodyOf) 116 = .ok (.istore 4, 2) := by decide +kernel
theorem d_Mo_bodyOf_118 : decode (mcd M_Mo_bodyOf) 118 = .ok (.iload 4, 2) := by decide +kernel
theorem d_Mo_bodyOf_120 : decode (mcd M_Mo_bodyOf) 120 = .ok (.aload_n 0, 1) := by decide +kernel
theorem d_Mo_bodyOf_121 : decode (mcd M_Mo_bodyOf) 121 = .ok (.getfield 50, 3) := by decide +kernel
theorem d_Mo_bodyOf_124 : decode (mcd M_Mo_bodyOf) 124 = .ok (.iload_n 3, 1) := by decide +kernel
theorem d_Mo_bodyOf_125 : decode (mcd M_Mo_bodyOf) 125 = .ok (.iaload, 1) := by decide +kernel
theorem d_Mo_bodyOf_126 : decode (mcd M_Mo_bodyOf) 126 = .ok (.aload_n 0, 1) := by decide +kernel
theorem d_Mo_bodyOf_127 : decode (mcd M_Mo_bodyOf) 127 = .ok (.getfield 53, 3) := by decide +kernel
theorem d_Mo_bodyOf_130 : decode (mcd M_Mo_bodyOf) 130 = .ok (.iload_n 3, 1) := by decide +kernel
theorem d_Mo_bodyOf_131 : decode (mcd M_Mo_bodyOf) 131 = .ok (.iaload, 1) := by decide +kernel
theorem d_Mo_bodyOf_132 : decode (mcd M_Mo_bodyOf) 132 = .ok (.iadd, 1) := by decide +kernel
theorem d_Mo_bodyOf_133 : decode (mcd M_Mo_bodyOf) 133 = .ok (.if_icmp .ge 30, 3) := by decide +kernel
theorem d_Mo_bodyOf_136 : decode (mcd M_Mo_bodyOf) 136 = .ok (.aload_n 0, 1) := by decide +kernel
theorem d_Mo_bodyOf_137 : decode (mcd M_Mo_bodyOf) 137 = .ok (.getfield 59, 3) := by decide +kernel
theorem d_Mo_bodyOf_140 : decode (mcd M_Mo_bodyOf) 140 = .ok (.iload 4, 2) := by decide +kernel
theorem d_Mo_bodyOf_142 : decode (mcd M_Mo_bodyOf) 142 = .ok (.iaload, 1) := by decide +kernel
theorem d_Mo_bodyOf_143 : decode (mcd M_Mo_bodyOf) 143 = .ok (.aload_n 0, 1) := by decide +kernel
theorem d_Mo_bodyOf_144 : decode (mcd M_Mo_bodyOf) 144 = .ok (.getfield 80, 3) := by decide +kernel
theorem d_Mo_bodyOf_147 : decode (mcd M_Mo_bodyOf) 147 = .ok (.iload_n 1, 1) := by decide +kernel
theorem d_Mo_bodyOf_148 : decode (mcd M_Mo_bodyOf) 148 = .ok (.iconst 1, 1) := by decide +kernel
theorem d_Mo_bodyOf_149 : decode (mcd M_Mo_bodyOf) 149 = .ok (.iadd, 1) := by decide +kernel
theorem d_Mo_bodyOf_150 : decode (mcd M_Mo_bodyOf) 150 = .ok (.iaload, 1) := by decide +kernel
theorem d_Mo_bodyOf_151 : decode (mcd M_Mo_bodyOf) 151 = .ok (.if_icmp .ne 6, 3) := by decide +kernel
theorem d_Mo_bodyOf_154 : decode (mcd M_Mo_bodyOf) 154 = .ok (.iload 4, 2) := by decide +kernel
theorem d_Mo_bodyOf_156 : decode (mcd M_Mo_bodyOf) 156 = .ok (.ireturn, 1) := by decide +kernel
theorem d_Mo_bodyOf_157 : decode (mcd M_Mo_bodyOf) 157 = .ok (.iinc 4 1, 3) := by decide +kernel
theorem d_Mo_bodyOf_160 : decode (mcd M_Mo_bodyOf) 160 = .ok (.goto (-42), 3) := by decide +kernel
theorem d_Mo_bodyOf_163 : decode (mcd M_Mo_bodyOf) 163 = .ok (.iconst (-1), 1) := by decide +kernel
theorem d_Mo_bodyOf_164 : decode (mcd M_Mo_bodyOf) 164 = .ok (.ireturn, 1) := by decide +kernel
theorem d_Mo_build_0 : decode (mcd M_Mo_build) 0 = .ok (.aload_n 0, 1) := by decide +kernel
theorem d_Mo_build_1 : decode (mcd M_Mo_build) 1 = .ok (.iload_n 1, 1) := by decide +kernel
theorem d_Mo_build_2 : decode (mcd M_Mo_build) 2 = .ok (.iconst 2, 1) := by decide +kernel
theorem d_Mo_build_3 : decode (mcd M_Mo_build) 3 = .ok (.invokevirtual 201, 3) := by decide +kernel
theorem d_Mo_build_6 : decode (mcd M_Mo_build) 6 = .ok (.bipush 40, 2) := by decide +kernel
theorem d_Mo_build_8 : decode (mcd M_Mo_build) 8 = .ok (.iload_n 1, 1) := by decide +kernel
theorem d_Mo_build_9 : decode (mcd M_Mo_build) 9 = .ok (.imul, 1) := by decide +kernel
theorem d_Mo_build_10 : decode (mcd M_Mo_build) 10 = .ok (.iconst 1, 1) := by decide +kernel
theorem d_Mo_build_11 : decode (mcd M_Mo_build) 11 = .ok (.iadd, 1) := by decide +kernel
theorem d_Mo_build_12 : decode (mcd M_Mo_build) 12 = .ok (.istore_n 2, 1) := by decide +kernel
theorem d_Mo_build_13 : decode (mcd M_Mo_build) 13 = .ok (.iconst 0, 1) := by decide +kernel
theorem d_Mo_build_14 : decode (mcd M_Mo_build) 14 = .ok (.istore_n 3, 1) := by decide +kernel
theorem d_Mo_build_15 : decode (mcd M_Mo_build) 15 = .ok (.iload_n 3, 1) := by decide +kernel
theorem d_Mo_build_16 : decode (mcd M_Mo_build) 16 = .ok (.aload_n 0, 1) := by decide +kernel
theorem d_Mo_build_17 : decode (mcd M_Mo_build) 17 = .ok (.aload_n 0, 1) := by decide +kernel
theorem d_Mo_build_18 : decode (mcd M_Mo_build) 18 = .ok (.getfield 41, 3) := by decide +kernel
theorem d_Mo_build_21 : decode (mcd M_Mo_build) 21 = .ok (.bipush 40, 2) := by decide +kernel
theorem d_Mo_build_23 : decode (mcd M_Mo_build) 23 = .ok (.iload_n 1, 1) := by decide +kernel
theorem d_Mo_build_24 : decode (mcd M_Mo_build) 24 = .ok (.imul, 1) := by decide +kernel
theorem d_Mo_build_25 : decode (mcd M_Mo_build) 25 = .ok (.iaload, 1) := by decide +kernel
theorem d_Mo_build_26 : decode (mcd M_Mo_build) 26 = .ok (.invokevirtual 124, 3) := by decide +kernel
theorem d_Mo_build_29 : decode (mcd M_Mo_build) 29 = .ok (.if_icmp .ge 45, 3) := by decide +kernel
theorem d_Mo_build_32 : decode (mcd M_Mo_build) 32 = .ok (.aload_n 0, 1) := by decide +kernel
theorem d_Mo_build_33 : decode (mcd M_Mo_build) 33 = .ok (.aload_n 0, 1) := by decide +kernel
theorem d_Mo_build_34 : decode (mcd M_Mo_build) 34 = .ok (.getfield 41, 3) := by decide +kernel
theorem d_Mo_build_37 : decode (mcd M_Mo_build) 37 = .ok (.iload_n 2, 1) := by decide +kernel
theorem d_Mo_build_38 : decode (mcd M_Mo_build) 38 = .ok (.invokevirtual 164, 3) := by decide +kernel
theorem d_Mo_build_41 : decode (mcd M_Mo_build) 41 = .ok (.istore 4, 2) := by decide +kernel
theorem d_Mo_build_43 : decode (mcd M_Mo_build) 43 = .ok (.aload_n 0, 1) := by decide +kernel
theorem d_Mo_build_44 : decode (mcd M_Mo_build) 44 = .ok (.iload_n 1, 1) := by decide +kernel
theorem d_Mo_build_45 : decode (mcd M_Mo_build) 45 = .ok (.aload_n 0, 1) := by decide +kernel
theorem d_Mo_build_46 : decode (mcd M_Mo_build) 46 = .ok (.getfield 41, 3) := by decide +kernel
theorem d_Mo_build_49 : decode (mcd M_Mo_build) 49 = .ok (.iload_n 2, 1) := by decide +kernel
theorem d_Mo_build_50 : decode (mcd M_Mo_build) 50 = .ok (.iload 4, 2) := by decide +kernel
theorem d_Mo_build_52 : decode (mcd M_Mo_build) 52 = .ok (.invokevirtual 205, 3) := by decide +kernel
theorem d_Mo_build_55 : decode (mcd M_Mo_build) 55 = .ok (.aload_n 0, 1) := by decide +kernel
theorem d_Mo_build_56 : decode (mcd M_Mo_build) 56 = .ok (.getfield 53, 3) := by decide +kernel
theorem d_Mo_build_59 : decode (mcd M_Mo_build) 59 = .ok (.iload_n 1, 1) := by decide +kernel
theorem d_Mo_build_60 : decode (mcd M_Mo_build) 60 = .ok (.dup2, 1) := by decide +kernel
theorem d_Mo_build_61 : decode (mcd M_Mo_build) 61 = .ok (.iaload, 1) := by decide +kernel
theorem d_Mo_build_62 : decode (mcd M_Mo_build) 62 = .ok (.iconst 1, 1) := by decide +kernel
theorem d_Mo_build_63 : decode (mcd M_Mo_build) 63 = .ok (.iadd, 1) := by decide +kernel
theorem d_Mo_build_64 : decode (mcd M_Mo_build) 64 = .ok (.iastore, 1) := by decide +kernel
theorem d_Mo_build_65 : decode (mcd M_Mo_build) 65 = .ok (.iload 4, 2) := by decide +kernel
theorem d_Mo_build_67 : decode (mcd M_Mo_build) 67 = .ok (.istore_n 2, 1) := by decide +kernel
theorem d_Mo_build_68 : decode (mcd M_Mo_build) 68 = .ok (.iinc 3 1, 3) := by decide +kernel
theorem d_Mo_build_71 : decode (mcd M_Mo_build) 71 = .ok (.goto (-56), 3) := by decide +kernel
theorem d_Mo_build_74 : decode (mcd M_Mo_build) 74 = .ok (.return_, 1) := by decide +kernel
theorem d_Mo_builtOf_0 : decode (mcd M_Mo_builtOf) 0 = .ok (.iload_n 0, 1) := by decide +kernel
theorem d_Mo_builtOf_1 : decode (mcd M_Mo_builtOf) 1 = .ok (.bipush 101, 2) := by decide +kernel
theorem d_Mo_builtOf_3 : decode (mcd M_Mo_builtOf) 3 = .ok (.if_icmp .eq 9, 3) := by decide +kernel
theorem d_Mo_builtOf_6 : decode (mcd M_Mo_builtOf) 6 = .ok (.iload_n 0, 1) := by decide +kernel
theorem d_Mo_builtOf_7 : decode (mcd M_Mo_builtOf) 7 = .ok (.bipush 104, 2) := by decide +kernel
theorem d_Mo_builtOf_9 : decode (mcd M_Mo_builtOf) 9 = .ok (.if_icmp .ne 7, 3) := by decide +kernel
theorem d_Mo_builtOf_12 : decode (mcd M_Mo_builtOf) 12 = .ok (.iconst 1, 1) := by decide +kernel
theorem d_Mo_builtOf_13 : decode (mcd M_Mo_builtOf) 13 = .ok (.goto 20, 3) := by decide +kernel
theorem d_Mo_builtOf_16 : decode (mcd M_Mo_builtOf) 16 = .ok (.iload_n 0, 1) := by decide +kernel
theorem d_Mo_builtOf_17 : decode (mcd M_Mo_builtOf) 17 = .ok (.bipush 102, 2) := by decide +kernel
theorem d_Mo_builtOf_19 : decode (mcd M_Mo_builtOf) 19 = .ok (.if_icmp .eq 9, 3) := by decide +kernel
theorem d_Mo_builtOf_22 : decode (mcd M_Mo_builtOf) 22 = .ok (.iload_n 0, 1) := by decide +kernel
theorem d_Mo_builtOf_23 : decode (mcd M_Mo_builtOf) 23 = .ok (.bipush 105, 2) := by decide +kernel
theorem d_Mo_builtOf_25 : decode (mcd M_Mo_builtOf) 25 = .ok (.if_icmp .ne 7, 3) := by decide +kernel
theorem d_Mo_builtOf_28 : decode (mcd M_Mo_builtOf) 28 = .ok (.iconst 2, 1) := by decide +kernel
theorem d_Mo_builtOf_29 : decode (mcd M_Mo_builtOf) 29 = .ok (.goto 4, 3) := by decide +kernel
theorem d_Mo_builtOf_32 : decode (mcd M_Mo_builtOf) 32 = .ok (.iconst 0, 1) := by decide +kernel
theorem d_Mo_builtOf_33 : decode (mcd M_Mo_builtOf) 33 = .ok (.ireturn, 1) := by decide +kernel
theorem d_Mo_differ_0 : decode (mcd M_Mo_differ) 0 = .ok (.aload_n 0, 1) := by decide +kernel
theorem d_Mo_differ_1 : decode (mcd M_Mo_differ) 1 = .ok (.aload_n 0, 1) := by decide +kernel
theorem d_Mo_differ_2 : decode (mcd M_Mo_differ) 2 = .ok (.getfield 41, 3) := by decide +kernel
theorem d_Mo_differ_5 : decode (mcd M_Mo_differ) 5 = .ok (.iload_n 2, 1) := by decide +kernel
theorem d_Mo_differ_6 : decode (mcd M_Mo_differ) 6 = .ok (.invokevirtual 164, 3) := by decide +kernel
theorem d_Mo_differ_9 : decode (mcd M_Mo_differ) 9 = .ok (.iload_n 2, 1) := by decide +kernel
theorem d_Mo_differ_10 : decode (mcd M_Mo_differ) 10 = .ok (.isub, 1) := by decide +kernel
theorem d_Mo_differ_11 : decode (mcd M_Mo_differ) 11 = .ok (.istore 4, 2) := by decide +kernel
theorem d_Mo_differ_13 : decode (mcd M_Mo_differ) 13 = .ok (.aload_n 0, 1) := by decide +kernel
theorem d_Mo_differ_14 : decode (mcd M_Mo_differ) 14 = .ok (.aload_n 0, 1) := by decide +kernel
theorem d_Mo_differ_15 : decode (mcd M_Mo_differ) 15 = .ok (.getfield 41, 3) := by decide +kernel
theorem d_Mo_differ_18 : decode (mcd M_Mo_differ) 18 = .ok (.iload_n 3, 1) := by decide +kernel
theorem d_Mo_differ_19 : decode (mcd M_Mo_differ) 19 = .ok (.invokevirtual 164, 3) := by decide +kernel
theorem d_Mo_differ_22 : decode (mcd M_Mo_differ) 22 = .ok (.iload_n 3, 1) := by decide +kernel
theorem d_Mo_differ_23 : decode (mcd M_Mo_differ) 23 = .ok (.isub, 1) := by decide +kernel
theorem d_Mo_differ_24 : decode (mcd M_Mo_differ) 24 = .ok (.istore 5, 2) := by decide +kernel
theorem d_Mo_differ_26 : decode (mcd M_Mo_differ) 26 = .ok (.iconst (-1), 1) := by decide +kernel
theorem d_Mo_differ_27 : decode (mcd M_Mo_differ) 27 = .ok (.istore 6, 2) := by decide +kernel
theorem d_Mo_differ_29 : decode (mcd M_Mo_differ) 29 = .ok (.iconst 0, 1) := by decide +kernel
theorem d_Mo_differ_30 : decode (mcd M_Mo_differ) 30 = .ok (.istore 7, 2) := by decide +kernel
theorem d_Mo_differ_32 : decode (mcd M_Mo_differ) 32 = .ok (.iload 7, 2) := by decide +kernel
theorem d_Mo_differ_34 : decode (mcd M_Mo_differ) 34 = .ok (.aload_n 0, 1) := by decide +kernel
theorem d_Mo_differ_35 : decode (mcd M_Mo_differ) 35 = .ok (.getfield 216, 3) := by decide +kernel
theorem d_Mo_differ_38 : decode (mcd M_Mo_differ) 38 = .ok (.if_icmp .ge 136, 3) := by decide +kernel
theorem d_Mo_differ_41 : decode (mcd M_Mo_differ) 41 = .ok (.iload 6, 2) := by decide +kernel
theorem d_Mo_differ_43 : decode (mcd M_Mo_differ) 43 = .ok (.ifCond .ge 131, 3) := by decide +kernel
theorem d_Mo_differ_46 : decode (mcd M_Mo_differ) 46 = .ok (.aload_n 0, 1) := by decide +kernel
theorem d_Mo_differ_47 : decode (mcd M_Mo_differ) 47 = .ok (.aload_n 0, 1) := by decide +kernel
theorem d_Mo_differ_48 : decode (mcd M_Mo_differ) 48 = .ok (.getfield 41, 3) := by decide +kernel
theorem d_Mo_differ_51 : decode (mcd M_Mo_differ) 51 = .ok (.aload_n 0, 1) := by decide +kernel
theorem d_Mo_differ_52 : decode (mcd M_Mo_differ) 52 = .ok (.getfield 104, 3) := by decide +kernel
theorem d_Mo_differ_55 : decode (mcd M_Mo_differ) 55 = .ok (.iload 7, 2) := by decide +kernel
theorem d_Mo_differ_57 : decode (mcd M_Mo_differ) 57 = .ok (.iaload, 1) := by decide +kernel
theorem d_Mo_differ_58 : decode (mcd M_Mo_differ) 58 = .ok (.invokevirtual 164, 3) := by decide +kernel
theorem d_Mo_differ_61 : decode (mcd M_Mo_differ) 61 = .ok (.aload_n 0, 1) := by decide +kernel
theorem d_Mo_differ_62 : decode (mcd M_Mo_differ) 62 = .ok (.getfield 104, 3) := by decide +kernel
theorem d_Mo_differ_65 : decode (mcd M_Mo_differ) 65 = .ok (.iload 7, 2) := by decide +kernel
theorem d_Mo_differ_67 : decode (mcd M_Mo_differ) 67 = .ok (.iaload, 1) := by decide +kernel
theorem d_Mo_differ_68 : decode (mcd M_Mo_differ) 68 = .ok (.isub, 1) := by decide +kernel
theorem d_Mo_differ_69 : decode (mcd M_Mo_differ) 69 = .ok (.iload 4, 2) := by decide +kernel
theorem d_Mo_differ_71 : decode (mcd M_Mo_differ) 71 = .ok (.if_icmp .ne 35, 3) := by decide +kernel
theorem d_Mo_differ_74 : decode (mcd M_Mo_differ) 74 = .ok (.aload_n 0, 1) := by decide +kernel
theorem d_Mo_differ_75 : decode (mcd M_Mo_differ) 75 = .ok (.aload_n 0, 1) := by decide +kernel
theorem d_Mo_differ_76 : decode (mcd M_Mo_differ) 76 = .ok (.getfield 41, 3) := by decide +kernel
theorem d_Mo_differ_79 : decode (mcd M_Mo_differ) 79 = .ok (.aload_n 0, 1) := by decide +kernel
theorem d_Mo_differ_80 : decode (mcd M_Mo_differ) 80 = .ok (.getfield 107, 3) := by decide +kernel
theorem d_Mo_differ_83 : decode (mcd M_Mo_differ) 83 = .ok (.iload 7, 2) := by decide +kernel
theorem d_Mo_differ_85 : decode (mcd M_Mo_differ) 85 = .ok (.iaload, 1) := by decide +kernel
theorem d_Mo_differ_86 : decode (mcd M_Mo_differ) 86 = .ok (.invokevirtual 164, 3) := by decide +kernel
theorem d_Mo_differ_89 : decode (mcd M_Mo_differ) 89 = .ok (.aload_n 0, 1) := by decide +kernel
theorem d_Mo_differ_90 : decode (mcd M_Mo_differ) 90 = .ok (.getfield 107, 3) := by decide +kernel
theorem d_Mo_differ_93 : decode (mcd M_Mo_differ) 93 = .ok (.iload 7, 2) := by decide +kernel
theorem d_Mo_differ_95 : decode (mcd M_Mo_differ) 95 = .ok (.iaload, 1) := by decide +kernel
theorem d_Mo_differ_96 : decode (mcd M_Mo_differ) 96 = .ok (.isub, 1) := by decide +kernel
theorem d_Mo_differ_97 : decode (mcd M_Mo_differ) 97 = .ok (.iload 5, 2) := by decide +kernel
theorem d_Mo_differ_99 : decode (mcd M_Mo_differ) 99 = .ok (.if_icmp .ne 7, 3) := by decide +kernel
theorem d_Mo_differ_102 : decode (mcd M_Mo_differ) 102 = .ok (.iconst 1, 1) := by decide +kernel
theorem d_Mo_differ_103 : decode (mcd M_Mo_differ) 103 = .ok (.goto 4, 3) := by decide +kernel
theorem d_Mo_differ_106 : decode (mcd M_Mo_differ) 106 = .ok (.iconst 0, 1) := by decide +kernel
theorem d_Mo_differ_107 : decode (mcd M_Mo_differ) 107 = .ok (.istore 8, 2) := by decide +kernel
theorem d_Mo_differ_109 : decode (mcd M_Mo_differ) 109 = .ok (.iload 8, 2) := by decide +kernel
theorem d_Mo_differ_111 : decode (mcd M_Mo_differ) 111 = .ok (.ifCond .eq 57, 3) := by decide +kernel
theorem d_Mo_differ_114 : decode (mcd M_Mo_differ) 114 = .ok (.aload_n 0, 1) := by decide +kernel
theorem d_Mo_differ_115 : decode (mcd M_Mo_differ) 115 = .ok (.aload_n 0, 1) := by decide +kernel
theorem d_Mo_differ_116 : decode (mcd M_Mo_differ) 116 = .ok (.getfield 41, 3) := by decide +kernel
theorem d_Mo_differ_119 : decode (mcd M_Mo_differ) 119 = .ok (.aload_n 0, 1) := by decide +kernel
theorem d_Mo_differ_120 : decode (mcd M_Mo_differ) 120 = .ok (.getfield 104, 3) := by decide +kernel
theorem d_Mo_differ_123 : decode (mcd M_Mo_differ) 123 = .ok (.iload 7, 2) := by decide +kernel
theorem d_Mo_differ_125 : decode (mcd M_Mo_differ) 125 = .ok (.iaload, 1) := by decide +kernel
theorem d_Mo_differ_126 : decode (mcd M_Mo_differ) 126 = .ok (.aload_n 0, 1) := by decide +kernel
theorem d_Mo_differ_127 : decode (mcd M_Mo_differ) 127 = .ok (.getfield 41, 3) := by decide +kernel
theorem d_Mo_differ_130 : decode (mcd M_Mo_differ) 130 = .ok (.iload_n 2, 1) := by decide +kernel
theorem d_Mo_differ_131 : decode (mcd M_Mo_differ) 131 = .ok (.iload 4, 2) := by decide +kernel
theorem d_Mo_differ_133 : decode (mcd M_Mo_differ) 133 = .ok (.invokevirtual 219, 3) := by decide +kernel
theorem d_Mo_differ_136 : decode (mcd M_Mo_differ) 136 = .ok (.ifCond .eq 32, 3) := by decide +kernel
theorem d_Mo_differ_139 : decode (mcd M_Mo_differ) 139 = .ok (.aload_n 0, 1) := by decide +kernel
theorem d_Mo_differ_140 : decode (mcd M_Mo_differ) 140 = .ok (.aload_n 0, 1) := by decide +kernel
theorem d_Mo_differ_141 : decode (mcd M_Mo_differ) 141 = .ok (.getfield 41, 3) := by decide +kernel
theorem d_Mo_differ_144 : decode (mcd M_Mo_differ) 144 = .ok (.aload_n 0, 1) := by decide +kernel
theorem d_Mo_differ_145 : decode (mcd M_Mo_differ) 145 = .ok (.getfield 107, 3) := by decide +kernel
theorem d_Mo_differ_148 : decode (mcd M_Mo_differ) 148 = .ok (.iload 7, 2) := by decide +kernel
theorem d_Mo_differ_150 : decode (mcd M_Mo_differ) 150 = .ok (.iaload, 1) := by decide +kernel
theorem d_Mo_differ_151 : decode (mcd M_Mo_differ) 151 = .ok (.aload_n 0, 1) := by decide +kernel
theorem d_Mo_differ_152 : decode (mcd M_Mo_differ) 152 = .ok (.getfield 41, 3) := by decide +kernel
theorem d_Mo_differ_155 : decode (mcd M_Mo_differ) 155 = .ok (.iload_n 3, 1) := by decide +kernel
theorem d_Mo_differ_156 : decode (mcd M_Mo_differ) 156 = .ok (.iload 5, 2) := by decide +kernel
theorem d_Mo_differ_158 : decode (mcd M_Mo_differ) 158 = .ok (.invokevirtual 219, 3) := by decide +kernel
theorem d_Mo_differ_161 : decode (mcd M_Mo_differ) 161 = .ok (.ifCond .eq 7, 3) := by decide +kernel
theorem d_Mo_differ_164 : decode (mcd M_Mo_differ) 164 = .ok (.iload 7, 2) := by decide +kernel
theorem d_Mo_differ_166 : decode (mcd M_Mo_differ) 166 = .ok (.istore 6, 2) := by decide +kernel
theorem d_Mo_differ_168 : decode (mcd M_Mo_differ) 168 = .ok (.iinc 7 1, 3) := by decide +kernel
theorem d_Mo_differ_171 : decode (mcd M_Mo_differ) 171 = .ok (.goto (-139), 3) := by decide +kernel
theorem d_Mo_differ_174 : decode (mcd M_Mo_differ) 174 = .ok (.iload 6, 2) := by decide +kernel
theorem d_Mo_differ_176 : decode (mcd M_Mo_differ) 176 = .ok (.ifCond .ge 45, 3) := by decide +kernel
theorem d_Mo_differ_179 : decode (mcd M_Mo_differ) 179 = .ok (.aload_n 0, 1) := by decide +kernel
theorem d_Mo_differ_180 : decode (mcd M_Mo_differ) 180 = .ok (.getfield 216, 3) := by decide +kernel
theorem d_Mo_differ_183 : decode (mcd M_Mo_differ) 183 = .ok (.istore 6, 2) := by decide +kernel
theorem d_Mo_differ_185 : decode (mcd M_Mo_differ) 185 = .ok (.aload_n 0, 1) := by decide +kernel
theorem d_Mo_differ_186 : decode (mcd M_Mo_differ) 186 = .ok (.getfield 104, 3) := by decide +kernel
theorem d_Mo_differ_189 : decode (mcd M_Mo_differ) 189 = .ok (.aload_n 0, 1) := by decide +kernel
theorem d_Mo_differ_190 : decode (mcd M_Mo_differ) 190 = .ok (.getfield 216, 3) := by decide +kernel
theorem d_Mo_differ_193 : decode (mcd M_Mo_differ) 193 = .ok (.iload_n 2, 1) := by decide +kernel
theorem d_Mo_differ_194 : decode (mcd M_Mo_differ) 194 = .ok (.iastore, 1) := by decide +kernel
theorem d_Mo_differ_195 : decode (mcd M_Mo_differ) 195 = .ok (.aload_n 0, 1) := by decide +kernel
theorem d_Mo_differ_196 : decode (mcd M_Mo_differ) 196 = .ok (.getfield 107, 3) := by decide +kernel
theorem d_Mo_differ_199 : decode (mcd M_Mo_differ) 199 = .ok (.aload_n 0, 1) := by decide +kernel
theorem d_Mo_differ_200 : decode (mcd M_Mo_differ) 200 = .ok (.getfield 216, 3) := by decide +kernel
theorem d_Mo_differ_203 : decode (mcd M_Mo_differ) 203 = .ok (.iload_n 3, 1) := by decide +kernel
theorem d_Mo_differ_204 : decode (mcd M_Mo_differ) 204 = .ok (.iastore, 1) := by decide +kernel
theorem d_Mo_differ_205 : decode (mcd M_Mo_differ) 205 = .ok (.aload_n 0, 1) := by decide +kernel
theorem d_Mo_differ_206 : decode (mcd M_Mo_differ) 206 = .ok (.dup, 1) := by decide +kernel
theorem d_Mo_differ_207 : decode (mcd M_Mo_differ) 207 = .ok (.getfield 216, 3) := by decide +kernel
theorem d_Mo_differ_210 : decode (mcd M_Mo_differ) 210 = .ok (.iconst 1, 1) := by decide +kernel
theorem d_Mo_differ_211 : decode (mcd M_Mo_differ) 211 = .ok (.iadd, 1) := by decide +kernel
theorem d_Mo_differ_212 : decode (mcd M_Mo_differ) 212 = .ok (.putfield 216, 3) := by decide +kernel
theorem d_Mo_differ_215 : decode (mcd M_Mo_differ) 215 = .ok (.aload_n 0, 1) := by decide +kernel
theorem d_Mo_differ_216 : decode (mcd M_Mo_differ) 216 = .ok (.iconst 1, 1) := by decide +kernel
theorem d_Mo_differ_217 : decode (mcd M_Mo_differ) 217 = .ok (.invokevirtual 209, 3) := by decide +kernel
theorem d_Mo_differ_220 : decode (mcd M_Mo_differ) 220 = .ok (.pop, 1) := by decide +kernel
theorem d_Mo_differ_221 : decode (mcd M_Mo_differ) 221 = .ok (.aload_n 0, 1) := by decide +kernel
theorem d_Mo_differ_222 : decode (mcd M_Mo_differ) 222 = .ok (.getfield 101, 3) := by decide +kernel
theorem d_Mo_differ_225 : decode (mcd M_Mo_differ) 225 = .ok (.aload_n 0, 1) := by decide +kernel
theorem d_Mo_differ_226 : decode (mcd M_Mo_differ) 226 = .ok (.getfield 223, 3) := by decide +kernel
theorem d_Mo_differ_229 : decode (mcd M_Mo_differ) 229 = .ok (.iload_n 1, 1) := by decide +kernel
theorem d_Mo_differ_230 : decode (mcd M_Mo_differ) 230 = .ok (.iload 6, 2) := by decide +kernel
theorem d_Mo_differ_232 : decode (mcd M_Mo_differ) 232 = .ok (.iadd, 1) := by decide +kernel
theorem d_Mo_differ_233 : decode (mcd M_Mo_differ) 233 = .ok (.iastore, 1) := by decide +kernel
theorem d_Mo_differ_234 : decode (mcd M_Mo_differ) 234 = .ok (.aload_n 0, 1) := by decide +kernel
theorem d_Mo_differ_235 : decode (mcd M_Mo_differ) 235 = .ok (.dup, 1) := by decide +kernel
theorem d_Mo_differ_236 : decode (mcd M_Mo_differ) 236 = .ok (.getfield 223, 3) := by decide +kernel
theorem d_Mo_differ_239 : decode (mcd M_Mo_differ) 239 = .ok (.iconst 1, 1) := by decide +kernel
theorem d_Mo_differ_240 : decode (mcd M_Mo_differ) 240 = .ok (.iadd, 1) := by decide +kernel
theorem d_Mo_differ_241 : decode (mcd M_Mo_differ) 241 = .ok (.putfield 223, 3) := by decide +kernel
theorem d_Mo_differ_244 : decode (mcd M_Mo_differ) 244 = .ok (.return_, 1) := by decide +kernel
theorem d_Mo_drive_0 : decode (mcd M_Mo_drive) 0 = .ok (.aload_n 0, 1) := by decide +kernel
theorem d_Mo_drive_1 : decode (mcd M_Mo_drive) 1 = .ok (.aload_n 0, 1) := by decide +kernel
theorem d_Mo_drive_2 : decode (mcd M_Mo_drive) 2 = .ok (.getfield 135, 3) := by decide +kernel
theorem d_Mo_drive_5 : decode (mcd M_Mo_drive) 5 = .ok (.ifCond .ne 7, 3) := by decide +kernel
theorem d_Mo_drive_8 : decode (mcd M_Mo_drive) 8 = .ok (.iconst 1, 1) := by decide +kernel
theorem d_Mo_drive_9 : decode (mcd M_Mo_drive) 9 = .ok (.goto 4, 3) := by decide +kernel
theorem d_Mo_drive_12 : decode (mcd M_Mo_drive) 12 = .ok (.iconst 0, 1) := by decide +kernel
theorem d_Mo_drive_13 : decode (mcd M_Mo_drive) 13 = .ok (.putfield 117, 3) := by decide +kernel
theorem d_Mo_drive_16 : decode (mcd M_Mo_drive) 16 = .ok (.aload_n 0, 1) := by decide +kernel
theorem d_Mo_drive_17 : decode (mcd M_Mo_drive) 17 = .ok (.getfield 117, 3) := by decide +kernel
theorem d_Mo_drive_20 : decode (mcd M_Mo_drive) 20 = .ok (.ifCond .le 5, 3) := by decide +kernel
theorem d_Mo_drive_23 : decode (mcd M_Mo_drive) 23 = .ok (.iconst 0, 1) := by decide +kernel
theorem d_Mo_drive_24 : decode (mcd M_Mo_drive) 24 = .ok (.ireturn, 1) := by decide +kernel
theorem d_Mo_drive_25 : decode (mcd M_Mo_drive) 25 = .ok (.aload_n 0, 1) := by decide +kernel
theorem d_Mo_drive_26 : decode (mcd M_Mo_drive) 26 = .ok (.iconst 0, 1) := by decide +kernel
theorem d_Mo_drive_27 : decode (mcd M_Mo_drive) 27 = .ok (.putfield 138, 3) := by decide +kernel
theorem d_Mo_drive_30 : decode (mcd M_Mo_drive) 30 = .ok (.aload_n 0, 1) := by decide +kernel
theorem d_Mo_drive_31 : decode (mcd M_Mo_drive) 31 = .ok (.iconst 0, 1) := by decide +kernel
theorem d_Mo_drive_32 : decode (mcd M_Mo_drive) 32 = .ok (.putfield 177, 3) := by decide +kernel
theorem d_Mo_drive_35 : decode (mcd M_Mo_drive) 35 = .ok (.aload_n 0, 1) := by decide +kernel
theorem d_Mo_drive_36 : decode (mcd M_Mo_drive) 36 = .ok (.iconst 0, 1) := by decide +kernel
theorem d_Mo_drive_37 : decode (mcd M_Mo_drive) 37 = .ok (.putfield 180, 3) := by decide +kernel
theorem d_Mo_drive_40 : decode (mcd M_Mo_drive) 40 = .ok (.aload_n 0, 1) := by decide +kernel
theorem d_Mo_drive_41 : decode (mcd M_Mo_drive) 41 = .ok (.bipush 8, 2) := by decide +kernel
theorem d_Mo_drive_43 : decode (mcd M_Mo_drive) 43 = .ok (.putfield 183, 3) := by decide +kernel
theorem d_Mo_drive_46 : decode (mcd M_Mo_drive) 46 = .ok (.aload_n 0, 1) := by decide +kernel
theorem d_Mo_drive_47 : decode (mcd M_Mo_drive) 47 = .ok (.iconst (-1), 1) := by decide +kernel
theorem d_Mo_drive_48 : decode (mcd M_Mo_drive) 48 = .ok (.aload_n 0, 1) := by decide +kernel
theorem d_Mo_drive_49 : decode (mcd M_Mo_drive) 49 = .ok (.getfield 26, 3) := by decide +kernel
theorem d_Mo_drive_52 : decode (mcd M_Mo_drive) 52 = .ok (.iconst 0, 1) := by decide +kernel
theorem d_Mo_drive_53 : decode (mcd M_Mo_drive) 53 = .ok (.aload_n 0, 1) := by decide +kernel
theorem d_Mo_drive_54 : decode (mcd M_Mo_drive) 54 = .ok (.getfield 135, 3) := by decide +kernel
theorem d_Mo_drive_57 : decode (mcd M_Mo_drive) 57 = .ok (.invokevirtual 205, 3) := by decide +kernel
theorem d_Mo_drive_60 : decode (mcd M_Mo_drive) 60 = .ok (.iconst 0, 1) := by decide +kernel
theorem d_Mo_drive_61 : decode (mcd M_Mo_drive) 61 = .ok (.istore_n 1, 1) := by decide +kernel
theorem d_Mo_drive_62 : decode (mcd M_Mo_drive) 62 = .ok (.iload_n 1, 1) := by decide +kernel
theorem d_Mo_drive_63 : decode (mcd M_Mo_drive) 63 = .ok (.ifCond .lt 23, 3) := by decide +kernel
theorem d_Mo_drive_66 : decode (mcd M_Mo_drive) 66 = .ok (.aload_n 0, 1) := by decide +kernel
theorem d_Mo_drive_67 : decode (mcd M_Mo_drive) 67 = .ok (.getfield 177, 3) := by decide +kernel
theorem d_Mo_drive_70 : decode (mcd M_Mo_drive) 70 = .ok (.ifCond .ne 16, 3) := by decide +kernel
theorem d_Mo_drive_73 : decode (mcd M_Mo_drive) 73 = .ok (.aload_n 0, 1) := by decide +kernel
theorem d_Mo_drive_74 : decode (mcd M_Mo_drive) 74 = .ok (.iload_n 1, 1) := by decide +kernel
theorem d_Mo_drive_75 : decode (mcd M_Mo_drive) 75 = .ok (.invokevirtual 257, 3) := by decide +kernel
theorem d_Mo_drive_78 : decode (mcd M_Mo_drive) 78 = .ok (.aload_n 0, 1) := by decide +kernel
theorem d_Mo_drive_79 : decode (mcd M_Mo_drive) 79 = .ok (.invokevirtual 260, 3) := by decide +kernel
theorem d_Mo_drive_82 : decode (mcd M_Mo_drive) 82 = .ok (.istore_n 1, 1) := by decide +kernel
theorem d_Mo_drive_83 : decode (mcd M_Mo_drive) 83 = .ok (.goto (-21), 3) := by decide +kernel
theorem d_Mo_drive_86 : decode (mcd M_Mo_drive) 86 = .ok (.aload_n 0, 1) := by decide +kernel
theorem d_Mo_drive_87 : decode (mcd M_Mo_drive) 87 = .ok (.invokevirtual 263, 3) := by decide +kernel
theorem d_Mo_drive_90 : decode (mcd M_Mo_drive) 90 = .ok (.aload_n 0, 1) := by decide +kernel
theorem d_Mo_drive_91 : decode (mcd M_Mo_drive) 91 = .ok (.getfield 180, 3) := by decide +kernel
theorem d_Mo_drive_94 : decode (mcd M_Mo_drive) 94 = .ok (.iconst 1, 1) := by decide +kernel
theorem d_Mo_drive_95 : decode (mcd M_Mo_drive) 95 = .ok (.isub, 1) := by decide +kernel
theorem d_Mo_drive_96 : decode (mcd M_Mo_drive) 96 = .ok (.istore_n 1, 1) := by decide +kernel
theorem d_Mo_drive_97 : decode (mcd M_Mo_drive) 97 = .ok (.iload_n 1, 1) := by decide +kernel
theorem d_Mo_drive_98 : decode (mcd M_Mo_drive) 98 = .ok (.ifCond .lt 30, 3) := by decide +kernel
theorem d_Mo_drive_101 : decode (mcd M_Mo_drive) 101 = .ok (.aload_n 0, 1) := by decide +kernel
theorem d_Mo_drive_102 : decode (mcd M_Mo_drive) 102 = .ok (.getfield 177, 3) := by decide +kernel
theorem d_Mo_drive_105 : decode (mcd M_Mo_drive) 105 = .ok (.ifCond .ne 23, 3) := by decide +kernel
theorem d_Mo_drive_108 : decode (mcd M_Mo_drive) 108 = .ok (.aload_n 0, 1) := by decide +kernel
theorem d_Mo_drive_109 : decode (mcd M_Mo_drive) 109 = .ok (.getfield 35, 3) := by decide +kernel
theorem d_Mo_drive_112 : decode (mcd M_Mo_drive) 112 = .ok (.iload_n 1, 1) := by decide +kernel
theorem d_Mo_drive_113 : decode (mcd M_Mo_drive) 113 = .ok (.iaload, 1) := by decide +kernel
theorem d_Mo_drive_114 : decode (mcd M_Mo_drive) 114 = .ok (.ifCond .eq 8, 3) := by decide +kernel
theorem d_Mo_drive_117 : decode (mcd M_Mo_drive) 117 = .ok (.aload_n 0, 1) := by decide +kernel
theorem d_Mo_drive_118 : decode (mcd M_Mo_drive) 118 = .ok (.iload_n 1, 1) := by decide +kernel
theorem d_Mo_drive_119 : decode (mcd M_Mo_drive) 119 = .ok (.invokevirtual 266, 3) := by decide +kernel
theorem d_Mo_drive_122 : decode (mcd M_Mo_drive) 122 = .ok (.iinc 1 (-1), 3) := by decide +kernel
theorem d_Mo_drive_125 : decode (mcd M_Mo_drive) 125 = .ok (.goto (-28), 3) := by decide +kernel
theorem d_Mo_drive_128 : decode (mcd M_Mo_drive) 128 = .ok (.aload_n 0, 1) := by decide +kernel
theorem d_Mo_drive_129 : decode (mcd M_Mo_drive) 129 = .ok (.aload_n 0, 1) := by decide +kernel
theorem d_Mo_drive_130 : decode (mcd M_Mo_drive) 130 = .ok (.getfield 177, 3) := by decide +kernel
theorem d_Mo_drive_133 : decode (mcd M_Mo_drive) 133 = .ok (.ifCond .eq 7, 3) := by decide +kernel
theorem d_Mo_drive_136 : decode (mcd M_Mo_drive) 136 = .ok (.iconst 2, 1) := by decide +kernel
theorem d_Mo_drive_137 : decode (mcd M_Mo_drive) 137 = .ok (.goto 4, 3) := by decide +kernel
theorem d_Mo_drive_140 : decode (mcd M_Mo_drive) 140 = .ok (.iconst 0, 1) := by decide +kernel
theorem d_Mo_drive_141 : decode (mcd M_Mo_drive) 141 = .ok (.putfield 117, 3) := by decide +kernel
theorem d_Mo_drive_144 : decode (mcd M_Mo_drive) 144 = .ok (.aload_n 0, 1) := by decide +kernel
theorem d_Mo_drive_145 : decode (mcd M_Mo_drive) 145 = .ok (.aload_n 0, 1) := by decide +kernel
theorem d_Mo_drive_146 : decode (mcd M_Mo_drive) 146 = .ok (.getfield 177, 3) := by decide +kernel
theorem d_Mo_drive_149 : decode (mcd M_Mo_drive) 149 = .ok (.ifCond .ne 7, 3) := by decide +kernel
theorem d_Mo_drive_152 : decode (mcd M_Mo_drive) 152 = .ok (.iconst 1, 1) := by decide +kernel
theorem d_Mo_drive_153 : decode (mcd M_Mo_drive) 153 = .ok (.goto 4, 3) := by decide +kernel
theorem d_Mo_drive_156 : decode (mcd M_Mo_drive) 156 = .ok (.iconst 0, 1) := by decide +kernel
theorem d_Mo_drive_157 : decode (mcd M_Mo_drive) 157 = .ok (.putfield 138, 3) := by decide +kernel
theorem d_Mo_drive_160 : decode (mcd M_Mo_drive) 160 = .ok (.aload_n 0, 1) := by decide +kernel
theorem d_Mo_drive_161 : decode (mcd M_Mo_drive) 161 = .ok (.getfield 177, 3) := by decide +kernel
theorem d_Mo_drive_164 : decode (mcd M_Mo_drive) 164 = .ok (.ifCond .eq 7, 3) := by decide +kernel
theorem d_Mo_drive_167 : decode (mcd M_Mo_drive) 167 = .ok (.iconst 0, 1) := by decide +kernel
theorem d_Mo_drive_168 : decode (mcd M_Mo_drive) 168 = .ok (.goto 7, 3) := by decide +kernel
theorem d_Mo_drive_171 : decode (mcd M_Mo_drive) 171 = .ok (.aload_n 0, 1) := by decide +kernel
theorem d_Mo_drive_172 : decode (mcd M_Mo_drive) 172 = .ok (.getfield 180, 3) := by decide +kernel
theorem d_Mo_drive_175 : decode (mcd M_Mo_drive) 175 = .ok (.ireturn, 1) := by decide +kernel
theorem d_Mo_end_0 : decode (mcd M_Mo_end) 0 = .ok (.iload_n 2, 1) := by decide +kernel
theorem d_Mo_end_1 : decode (mcd M_Mo_end) 1 = .ok (.istore_n 3, 1) := by decide +kernel
theorem d_Mo_end_2 : decode (mcd M_Mo_end) 2 = .ok (.iconst 1, 1) := by decide +kernel
theorem d_Mo_end_3 : decode (mcd M_Mo_end) 3 = .ok (.istore 4, 2) := by decide +kernel
theorem d_Mo_end_5 : decode (mcd M_Mo_end) 5 = .ok (.iload 4, 2) := by decide +kernel
theorem d_Mo_end_7 : decode (mcd M_Mo_end) 7 = .ok (.ifCond .le 23, 3) := by decide +kernel
theorem d_Mo_end_10 : decode (mcd M_Mo_end) 10 = .ok (.iload 4, 2) := by decide +kernel
theorem d_Mo_end_12 : decode (mcd M_Mo_end) 12 = .ok (.iconst 1, 1) := by decide +kernel
theorem d_Mo_end_13 : decode (mcd M_Mo_end) 13 = .ok (.isub, 1) := by decide +kernel
theorem d_Mo_end_14 : decode (mcd M_Mo_end) 14 = .ok (.aload_n 0, 1) := by decide +kernel
theorem d_Mo_end_15 : decode (mcd M_Mo_end) 15 = .ok (.aload_n 1, 1) := by decide +kernel
theorem d_Mo_end_16 : decode (mcd M_Mo_end) 16 = .ok (.iload_n 3, 1) := by decide +kernel
theorem d_Mo_end_17 : decode (mcd M_Mo_end) 17 = .ok (.iaload, 1) := by decide +kernel
theorem d_Mo_end_18 : decode (mcd M_Mo_end) 18 = .ok (.invokevirtual 124, 3) := by decide +kernel
theorem d_Mo_end_21 : decode (mcd M_Mo_end) 21 = .ok (.iadd, 1) := by decide +kernel
theorem d_Mo_end_22 : decode (mcd M_Mo_end) 22 = .ok (.istore 4, 2) := by decide +kernel
theorem d_Mo_end_24 : decode (mcd M_Mo_end) 24 = .ok (.iinc 3 1, 3) := by decide +kernel
theorem d_Mo_end_27 : decode (mcd M_Mo_end) 27 = .ok (.goto (-22), 3) := by decide +kernel
theorem d_Mo_end_30 : decode (mcd M_Mo_end) 30 = .ok (.iload_n 3, 1) := by decide +kernel
theorem d_Mo_end_31 : decode (mcd M_Mo_end) 31 = .ok (.ireturn, 1) := by decide +kernel
theorem d_Mo_findFunctions_0 : decode (mcd M_Mo_findFunctions) 0 = .ok (.iconst 0, 1) := by decide +kernel
theorem d_Mo_findFunctions_1 : decode (mcd M_Mo_findFunctions) 1 = .ok (.istore_n 1, 1) := by decide +kernel
theorem d_Mo_findFunctions_2 : decode (mcd M_Mo_findFunctions) 2 = .ok (.iload_n 1, 1) := by decide +kernel
theorem d_Mo_findFunctions_3 : decode (mcd M_Mo_findFunctions) 3 = .ok (.aload_n 0, 1) := by decide +kernel
theorem d_Mo_findFunctions_4 : decode (mcd M_Mo_findFunctions) 4 = .ok (.getfield 180, 3) := by decide +kernel
theorem d_Mo_findFunctions_7 : decode (mcd M_Mo_findFunctions) 7 = .ok (.if_icmp .ge 178, 3) := by decide +kernel
theorem d_Mo_findFunctions_10 : decode (mcd M_Mo_findFunctions) 10 = .ok (.iconst 0, 1) := by decide +kernel
theorem d_Mo_findFunctions_11 : decode (mcd M_Mo_findFunctions) 11 = .ok (.istore_n 2, 1) := by decide +kernel
theorem d_Mo_findFunctions_12 : decode (mcd M_Mo_findFunctions) 12 = .ok (.iconst 0, 1) := by decide +kernel
theorem d_Mo_findFunctions_13 : decode (mcd M_Mo_findFunctions) 13 = .ok (.istore_n 3, 1) := by decide +kernel
theorem d_Mo_findFunctions_14 : decode (mcd M_Mo_findFunctions) 14 = .ok (.iload_n 3, 1) := by decide +kernel
theorem d_Mo_findFunctions_15 : decode (mcd M_Mo_findFunctions) 15 = .ok (.aload_n 0, 1) := by decide +kernel
theorem d_Mo_findFunctions_16 : decode (mcd M_Mo_findFunctions) 16 = .ok (.getfield 180, 3) := by decide +kernel
theorem d_Mo_findFunctions_19 : decode (mcd M_Mo_findFunctions) 19 = .ok (.if_icmp .ge 40, 3) := by decide +kernel
theorem d_Mo_findFunctions_22 : decode (mcd M_Mo_findFunctions) 22 = .ok (.iload_n 2, 1) := by decide +kernel
theorem d_Mo_findFunctions_23 : decode (mcd M_Mo_findFunctions) 23 = .ok (.ifCond .ne 24, 3) := by decide +kernel
theorem d_Mo_findFunctions_26 : decode (mcd M_Mo_findFunctions) 26 = .ok (.aload_n 0, 1) := by decide +kernel
theorem d_Mo_findFunctions_27 : decode (mcd M_Mo_findFunctions) 27 = .ok (.getfield 35, 3) := by decide +kernel
theorem d_Mo_findFunctions_30 : decode (mcd M_Mo_findFunctions) 30 = .ok (.iload_n 3, 1) := by decide +kernel
theorem d_Mo_findFunctions_31 : decode (mcd M_Mo_findFunctions) 31 = .ok (.iaload, 1) := by decide +kernel
theorem d_Mo_findFunctions_32 : decode (mcd M_Mo_findFunctions) 32 = .ok (.bipush 6, 2) := by decide +kernel
theorem d_Mo_findFunctions_34 : decode (mcd M_Mo_findFunctions) 34 = .ok (.if_icmp .ne 17, 3) := by decide +kernel
theorem d_Mo_findFunctions_37 : decode (mcd M_Mo_findFunctions) 37 = .ok (.aload_n 0, 1) := by decide +kernel
theorem d_Mo_findFunctions_38 : decode (mcd M_Mo_findFunctions) 38 = .ok (.getfield 47, 3) := by decide +kernel
theorem d_Mo_findFunctions_41 : decode (mcd M_Mo_findFunctions) 41 = .ok (.iload_n 3, 1) := by decide +kernel
theorem d_Mo_findFunctions_42 : decode (mcd M_Mo_findFunctions) 42 = .ok (.iaload, 1) := by decide +kernel
theorem d_Mo_findFunctions_43 : decode (mcd M_Mo_findFunctions) 43 = .ok (.iload_n 1, 1) := by decide +kernel
theorem d_Mo_findFunctions_44 : decode (mcd M_Mo_findFunctions) 44 = .ok (.if_icmp .ne 7, 3) := by decide +kernel
theorem d_Mo_findFunctions_47 : decode (mcd M_Mo_findFunctions) 47 = .ok (.iconst 1, 1) := by decide +kernel
theorem d_Mo_findFunctions_48 : decode (mcd M_Mo_findFunctions) 48 = .ok (.goto 4, 3) := by decide +kernel
theorem d_Mo_findFunctions_51 : decode (mcd M_Mo_findFunctions) 51 = .ok (.iconst 0, 1) := by decide +kernel
theorem d_Mo_findFunctions_52 : decode (mcd M_Mo_findFunctions) 52 = .ok (.istore_n 2, 1) := by decide +kernel
theorem d_Mo_findFunctions_53 : decode (mcd M_Mo_findFunctions) 53 = .ok (.iinc 3 1, 3) := by decide +kernel
theorem d_Mo_findFunctions_56 : decode (mcd M_Mo_findFunctions) 56 = .ok (.goto (-42), 3) := by decide +kernel
theorem d_Mo_findFunctions_59 : decode (mcd M_Mo_findFunctions) 59 = .ok (.aload_n 0, 1) := by decide +kernel
theorem d_Mo_findFunctions_60 : decode (mcd M_Mo_findFunctions) 60 = .ok (.getfield 65, 3) := by decide +kernel
theorem d_Mo_findFunctions_63 : decode (mcd M_Mo_findFunctions) 63 = .ok (.iload_n 1, 1) := by decide +kernel
theorem d_Mo_findFunctions_64 : decode (mcd M_Mo_findFunctions) 64 = .ok (.aload_n 0, 1) := by decide +kernel
theorem d_Mo_findFunctions_65 : decode (mcd M_Mo_findFunctions) 65 = .ok (.getfield 35, 3) := by decide +kernel
theorem d_Mo_findFunctions_68 : decode (mcd M_Mo_findFunctions) 68 = .ok (.iload_n 1, 1) := by decide +kernel
theorem d_Mo_findFunctions_69 : decode (mcd M_Mo_findFunctions) 69 = .ok (.iaload, 1) := by decide +kernel
theorem d_Mo_findFunctions_70 : decode (mcd M_Mo_findFunctions) 70 = .ok (.iconst 4, 1) := by decide +kernel
theorem d_Mo_findFunctions_71 : decode (mcd M_Mo_findFunctions) 71 = .ok (.if_icmp .eq 17, 3) := by decide +kernel
theorem d_Mo_findFunctions_74 : decode (mcd M_Mo_findFunctions) 74 = .ok (.aload_n 0, 1) := by decide +kernel
theorem d_Mo_findFunctions_75 : decode (mcd M_Mo_findFunctions) 75 = .ok (.getfield 35, 3) := by decide +kernel
theorem d_Mo_findFunctions_78 : decode (mcd M_Mo_findFunctions) 78 = .ok (.iload_n 1, 1) := by decide +kernel
theorem d_Mo_findFunctions_79 : decode (mcd M_Mo_findFunctions) 79 = .ok (.iaload, 1) := by decide +kernel
theorem d_Mo_findFunctions_80 : decode (mcd M_Mo_findFunctions) 80 = .ok (.iconst 3, 1) := by decide +kernel
theorem d_Mo_findFunctions_81 : decode (mcd M_Mo_findFunctions) 81 = .ok (.if_icmp .ne 11, 3) := by decide +kernel
theorem d_Mo_findFunctions_84 : decode (mcd M_Mo_findFunctions) 84 = .ok (.iload_n 2, 1) := by decide +kernel
theorem d_Mo_findFunctions_85 : decode (mcd M_Mo_findFunctions) 85 = .ok (.ifCond .eq 7, 3) := by decide +kernel
theorem d_Mo_findFunctions_88 : decode (mcd M_Mo_findFunctions) 88 = .ok (.iconst 1, 1) := by decide +kernel
theorem d_Mo_findFunctions_89 : decode (mcd M_Mo_findFunctions) 89 = .ok (.goto 4, 3) := by decide +kernel
theorem d_Mo_findFunctions_92 : decode (mcd M_Mo_findFunctions) 92 = .ok (.iconst 0, 1) := by decide +kernel
theorem d_Mo_findFunctions_93 : decode (mcd M_Mo_findFunctions) 93 = .ok (.bastore, 1) := by decide +kernel
theorem d_Mo_findFunctions_94 : decode (mcd M_Mo_findFunctions) 94 = .ok (.aload_n 0, 1) := by decide +kernel
theorem d_Mo_findFunctions_95 : decode (mcd M_Mo_findFunctions) 95 = .ok (.getfield 71, 3) := by decide +kernel
theorem d_Mo_findFunctions_98 : decode (mcd M_Mo_findFunctions) 98 = .ok (.iload_n 1, 1) := by decide +kernel
theorem d_Mo_findFunctions_99 : decode (mcd M_Mo_findFunctions) 99 = .ok (.iconst 0, 1) := by decide +kernel
theorem d_Mo_findFunctions_100 : decode (mcd M_Mo_findFunctions) 100 = .ok (.iastore, 1) := by decide +kernel
theorem d_Mo_findFunctions_101 : decode (mcd M_Mo_findFunctions) 101 = .ok (.aload_n 0, 1) := by decide +kernel
theorem d_Mo_findFunctions_102 : decode (mcd M_Mo_findFunctions) 102 = .ok (.getfield 35, 3) := by decide +kernel
theorem d_Mo_findFunctions_105 : decode (mcd M_Mo_findFunctions) 105 = .ok (.iload_n 1, 1) := by decide +kernel
theorem d_Mo_findFunctions_106 : decode (mcd M_Mo_findFunctions) 106 = .ok (.iaload, 1) := by decide +kernel
theorem d_Mo_findFunctions_107 : decode (mcd M_Mo_findFunctions) 107 = .ok (.iconst 4, 1) := by decide +kernel
theorem d_Mo_findFunctions_108 : decode (mcd M_Mo_findFunctions) 108 = .ok (.if_icmp .ne 14, 3) := by decide +kernel
theorem d_Mo_findFunctions_111 : decode (mcd M_Mo_findFunctions) 111 = .ok (.aload_n 0, 1) := by decide +kernel
theorem d_Mo_findFunctions_112 : decode (mcd M_Mo_findFunctions) 112 = .ok (.iload_n 1, 1) := by decide +kernel
theorem d_Mo_findFunctions_113 : decode (mcd M_Mo_findFunctions) 113 = .ok (.aload_n 0, 1) := by decide +kernel
theorem d_Mo_findFunctions_114 : decode (mcd M_Mo_findFunctions) 114 = .ok (.getfield 47, 3) := by decide +kernel
theorem d_Mo_findFunctions_117 : decode (mcd M_Mo_findFunctions) 117 = .ok (.iload_n 1, 1) := by decide +kernel
theorem d_Mo_findFunctions_118 : decode (mcd M_Mo_findFunctions) 118 = .ok (.iaload, 1) := by decide +kernel
theorem d_Mo_findFunctions_119 : decode (mcd M_Mo_findFunctions) 119 = .ok (.invokevirtual 269, 3) := by decide +kernel
theorem d_Mo_findFunctions_122 : decode (mcd M_Mo_findFunctions) 122 = .ok (.bipush 40, 2) := by decide +kernel
theorem d_Mo_findFunctions_124 : decode (mcd M_Mo_findFunctions) 124 = .ok (.iload_n 1, 1) := by decide +kernel
theorem d_Mo_findFunctions_125 : decode (mcd M_Mo_findFunctions) 125 = .ok (.imul, 1) := by decide +kernel
theorem d_Mo_findFunctions_126 : decode (mcd M_Mo_findFunctions) 126 = .ok (.istore_n 3, 1) := by decide +kernel
theorem d_Mo_findFunctions_127 : decode (mcd M_Mo_findFunctions) 127 = .ok (.iload_n 3, 1) := by decide +kernel
theorem d_Mo_findFunctions_128 : decode (mcd M_Mo_findFunctions) 128 = .ok (.bipush 40, 2) := by decide +kernel
theorem d_Mo_findFunctions_130 : decode (mcd M_Mo_findFunctions) 130 = .ok (.iload_n 1, 1) := by decide +kernel
theorem d_Mo_findFunctions_131 : decode (mcd M_Mo_findFunctions) 131 = .ok (.imul, 1) := by decide +kernel
theorem d_Mo_findFunctions_132 : decode (mcd M_Mo_findFunctions) 132 = .ok (.aload_n 0, 1) := by decide +kernel
theorem d_Mo_findFunctions_133 : decode (mcd M_Mo_findFunctions) 133 = .ok (.getfield 44, 3) := by decide +kernel
theorem d_Mo_findFunctions_136 : decode (mcd M_Mo_findFunctions) 136 = .ok (.iload_n 1, 1) := by decide +kernel
theorem d_Mo_findFunctions_137 : decode (mcd M_Mo_findFunctions) 137 = .ok (.iaload, 1) := by decide +kernel
theorem d_Mo_findFunctions_138 : decode (mcd M_Mo_findFunctions) 138 = .ok (.iadd, 1) := by decide +kernel
theorem d_Mo_findFunctions_139 : decode (mcd M_Mo_findFunctions) 139 = .ok (.if_icmp .ge 40, 3) := by decide +kernel
theorem d_Mo_findFunctions_142 : decode (mcd M_Mo_findFunctions) 142 = .ok (.aload_n 0, 1) := by decide +kernel
theorem d_Mo_findFunctions_143 : decode (mcd M_Mo_findFunctions) 143 = .ok (.getfield 65, 3) := by decide +kernel
theorem d_Mo_findFunctions_146 : decode (mcd M_Mo_findFunctions) 146 = .ok (.iload_n 1, 1) := by decide +kernel
theorem d_Mo_findFunctions_147 : decode (mcd M_Mo_findFunctions) 147 = .ok (.baload, 1) := by decide +kernel
theorem d_Mo_findFunctions_148 : decode (mcd M_Mo_findFunctions) 148 = .ok (.ifCond .eq 31, 3) := by decide +kernel
theorem d_Mo_findFunctions_151 : decode (mcd M_Mo_findFunctions) 151 = .ok (.aload_n 0, 1) := by decide +kernel
theorem d_Mo_findFunctions_152 : decode (mcd M_Mo_findFunctions) 152 = .ok (.getfield 41, 3) := by decide +kernel
theorem d_Mo_findFunctions_155 : decode (mcd M_Mo_findFunctions) 155 = .ok (.iload_n 3, 1) := by decide +kernel
theorem d_Mo_findFunctions_156 : decode (mcd M_Mo_findFunctions) 156 = .ok (.iaload, 1) := by decide +kernel
theorem d_Mo_findFunctions_157 : decode (mcd M_Mo_findFunctions) 157 = .ok (.bipush 100, 2) := by decide +kernel
theorem d_Mo_findFunctions_159 : decode (mcd M_Mo_findFunctions) 159 = .ok (.if_icmp .ge 14, 3) := by decide +kernel
theorem d_Mo_findFunctions_162 : decode (mcd M_Mo_findFunctions) 162 = .ok (.aload_n 0, 1) := by decide +kernel
theorem d_Mo_findFunctions_163 : decode (mcd M_Mo_findFunctions) 163 = .ok (.iload_n 1, 1) := by decide +kernel
theorem d_Mo_findFunctions_164 : decode (mcd M_Mo_findFunctions) 164 = .ok (.aload_n 0, 1) := by decide +kernel
theorem d_Mo_findFunctions_165 : decode (mcd M_Mo_findFunctions) 165 = .ok (.getfield 41, 3) := by decide +kernel
theorem d_Mo_findFunctions_168 : decode (mcd M_Mo_findFunctions) 168 = .ok (.iload_n 3, 1) := by decide +kernel
theorem d_Mo_findFunctions_169 : decode (mcd M_Mo_findFunctions) 169 = .ok (.iaload, 1) := by decide +kernel
theorem d_Mo_findFunctions_170 : decode (mcd M_Mo_findFunctions) 170 = .ok (.invokevirtual 269, 3) := by decide +kernel
theorem d_Mo_findFunctions_173 : decode (mcd M_Mo_findFunctions) 173 = .ok (.iinc 3 1, 3) := by decide +kernel
theorem d_Mo_findFunctions_176 : decode (mcd M_Mo_findFunctions) 176 = .ok (.goto (-49), 3) := by decide +kernel
theorem d_Mo_findFunctions_179 : decode (mcd M_Mo_findFunctions) 179 = .ok (.iinc 1 1, 3) := by decide +kernel
theorem d_Mo_findFunctions_182 : decode (mcd M_Mo_findFunctions) 182 = .ok (.goto (-180), 3) := by decide +kernel
theorem d_Mo_findFunctions_185 : decode (mcd M_Mo_findFunctions) 185 = .ok (.return_, 1) := by decide +kernel
theorem d_Mo_forget_0 : decode (mcd M_Mo_forget) 0 = .ok (.aload_n 0, 1) := by decide +kernel
theorem d_Mo_forget_1 : decode (mcd M_Mo_forget) 1 = .ok (.iconst 0, 1) := by decide +kernel
theorem d_Mo_forget_2 : decode (mcd M_Mo_forget) 2 = .ok (.putfield 117, 3) := by decide +kernel
theorem d_Mo_forget_5 : decode (mcd M_Mo_forget) 5 = .ok (.aload_n 0, 1) := by decide +kernel
theorem d_Mo_forget_6 : decode (mcd M_Mo_forget) 6 = .ok (.iconst 0, 1) := by decide +kernel
theorem d_Mo_forget_7 : decode (mcd M_Mo_forget) 7 = .ok (.putfield 127, 3) := by decide +kernel
theorem d_Mo_forget_10 : decode (mcd M_Mo_forget) 10 = .ok (.iconst 0, 1) := by decide +kernel
theorem d_Mo_forget_11 : decode (mcd M_Mo_forget) 11 = .ok (.istore_n 1, 1) := by decide +kernel
theorem d_Mo_forget_12 : decode (mcd M_Mo_forget) 12 = .ok (.iload_n 1, 1) := by decide +kernel
theorem d_Mo_forget_13 : decode (mcd M_Mo_forget) 13 = .ok (.bipush 8, 2) := by decide +kernel
theorem d_Mo_forget_15 : decode (mcd M_Mo_forget) 15 = .ok (.if_icmp .ge 23, 3) := by decide +kernel
theorem d_Mo_forget_18 : decode (mcd M_Mo_forget) 18 = .ok (.aload_n 0, 1) := by decide +kernel
theorem d_Mo_forget_19 : decode (mcd M_Mo_forget) 19 = .ok (.getfield 13, 3) := by decide +kernel
theorem d_Mo_forget_22 : decode (mcd M_Mo_forget) 22 = .ok (.iload_n 1, 1) := by decide +kernel
theorem d_Mo_forget_23 : decode (mcd M_Mo_forget) 23 = .ok (.iconst 0, 1) := by decide +kernel
theorem d_Mo_forget_24 : decode (mcd M_Mo_forget) 24 = .ok (.iastore, 1) := by decide +kernel
theorem d_Mo_forget_25 : decode (mcd M_Mo_forget) 25 = .ok (.aload_n 0, 1) := by decide +kernel
theorem d_Mo_forget_26 : decode (mcd M_Mo_forget) 26 = .ok (.getfield 32, 3) := by decide +kernel
theorem d_Mo_forget_29 : decode (mcd M_Mo_forget) 29 = .ok (.iload_n 1, 1) := by decide +kernel
theorem d_Mo_forget_30 : decode (mcd M_Mo_forget) 30 = .ok (.iconst 0, 1) := by decide +kernel
theorem d_Mo_forget_31 : decode (mcd M_Mo_forget) 31 = .ok (.iastore, 1) := by decide +kernel
theorem d_Mo_forget_32 : decode (mcd M_Mo_forget) 32 = .ok (.iinc 1 1, 3) := by decide +kernel
theorem d_Mo_forget_35 : decode (mcd M_Mo_forget) 35 = .ok (.goto (-23), 3) := by decide +kernel
theorem d_Mo_forget_38 : decode (mcd M_Mo_forget) 38 = .ok (.iconst 0, 1) := by decide +kernel
theorem d_Mo_forget_39 : decode (mcd M_Mo_forget) 39 = .ok (.istore_n 1, 1) := by decide +kernel
theorem d_Mo_forget_40 : decode (mcd M_Mo_forget) 40 = .ok (.iload_n 1, 1) := by decide +kernel
theorem d_Mo_forget_41 : decode (mcd M_Mo_forget) 41 = .ok (.bipush 56, 2) := by decide +kernel
theorem d_Mo_forget_43 : decode (mcd M_Mo_forget) 43 = .ok (.if_icmp .ge 16, 3) := by decide +kernel
theorem d_Mo_forget_46 : decode (mcd M_Mo_forget) 46 = .ok (.aload_n 0, 1) := by decide +kernel
theorem d_Mo_forget_47 : decode (mcd M_Mo_forget) 47 = .ok (.getfield 23, 3) := by decide +kernel
theorem d_Mo_forget_50 : decode (mcd M_Mo_forget) 50 = .ok (.iload_n 1, 1) := by decide +kernel
theorem d_Mo_forget_51 : decode (mcd M_Mo_forget) 51 = .ok (.iconst 0, 1) := by decide +kernel
theorem d_Mo_forget_52 : decode (mcd M_Mo_forget) 52 = .ok (.iastore, 1) := by decide +kernel
theorem d_Mo_forget_53 : decode (mcd M_Mo_forget) 53 = .ok (.iinc 1 1, 3) := by decide +kernel
theorem d_Mo_forget_56 : decode (mcd M_Mo_forget) 56 = .ok (.goto (-16), 3) := by decide +kernel
theorem d_Mo_forget_59 : decode (mcd M_Mo_forget) 59 = .ok (.aload_n 0, 1) := by decide +kernel
theorem d_Mo_forget_60 : decode (mcd M_Mo_forget) 60 = .ok (.iconst 0, 1) := by decide +kernel
theorem d_Mo_forget_61 : decode (mcd M_Mo_forget) 61 = .ok (.putfield 135, 3) := by decide +kernel
theorem d_Mo_forget_64 : decode (mcd M_Mo_forget) 64 = .ok (.aload_n 0, 1) := by decide +kernel
theorem d_Mo_forget_65 : decode (mcd M_Mo_forget) 65 = .ok (.iconst 0, 1) := by decide +kernel
theorem d_Mo_forget_66 : decode (mcd M_Mo_forget) 66 = .ok (.putfield 138, 3) := by decide +kernel
theorem d_Mo_forget_69 : decode (mcd M_Mo_forget) 69 = .ok (.aload_n 0, 1) := by decide +kernel
theorem d_Mo_forget_70 : decode (mcd M_Mo_forget) 70 = .ok (.iconst (-1), 1) := by decide +kernel
theorem d_Mo_forget_71 : decode (mcd M_Mo_forget) 71 = .ok (.putfield 110, 3) := by decide +kernel
theorem d_Mo_forget_74 : decode (mcd M_Mo_forget) 74 = .ok (.aload_n 0, 1) := by decide +kernel
theorem d_Mo_forget_75 : decode (mcd M_Mo_forget) 75 = .ok (.iconst 0, 1) := by decide +kernel
theorem d_Mo_forget_76 : decode (mcd M_Mo_forget) 76 = .ok (.putfield 142, 3) := by decide +kernel
theorem d_Mo_forget_79 : decode (mcd M_Mo_forget) 79 = .ok (.return_, 1) := by decide +kernel
theorem d_Mo_function_0 : decode (mcd M_Mo_function) 0 = .ok (.iload_n 1, 1) := by decide +kernel
theorem d_Mo_function_1 : decode (mcd M_Mo_function) 1 = .ok (.ifCond .lt 19, 3) := by decide +kernel
theorem d_Mo_function_4 : decode (mcd M_Mo_function) 4 = .ok (.iload_n 1, 1) := by decide +kernel
theorem d_Mo_function_5 : decode (mcd M_Mo_function) 5 = .ok (.bipush 7, 2) := by decide +kernel
theorem d_Mo_function_7 : decode (mcd M_Mo_function) 7 = .ok (.if_icmp .gt 13, 3) := by decide +kernel
theorem d_Mo_function_10 : decode (mcd M_Mo_function) 10 = .ok (.iload_n 2, 1) := by decide +kernel
theorem d_Mo_function_11 : decode (mcd M_Mo_function) 11 = .ok (.iconst 1, 1) := by decide +kernel
theorem d_Mo_function_12 : decode (mcd M_Mo_function) 12 = .ok (.if_icmp .lt 8, 3) := by decide +kernel
theorem d_Mo_function_15 : decode (mcd M_Mo_function) 15 = .ok (.iload_n 2, 1) := by decide +kernel
theorem d_Mo_function_16 : decode (mcd M_Mo_function) 16 = .ok (.iconst 3, 1) := by decide +kernel
theorem d_Mo_function_17 : decode (mcd M_Mo_function) 17 = .ok (.if_icmp .le 7, 3) := by decide +kernel
theorem d_Mo_function_20 : decode (mcd M_Mo_function) 20 = .ok (.iconst 1, 1) := by decide +kernel
theorem d_Mo_function_21 : decode (mcd M_Mo_function) 21 = .ok (.goto 4, 3) := by decide +kernel
theorem d_Mo_function_24 : decode (mcd M_Mo_function) 24 = .ok (.iconst 0, 1) := by decide +kernel
theorem d_Mo_function_25 : decode (mcd M_Mo_function) 25 = .ok (.istore 4, 2) := by decide +kernel
theorem d_Mo_function_27 : decode (mcd M_Mo_function) 27 = .ok (.aload_n 0, 1) := by decide +kernel
theorem d_Mo_function_28 : decode (mcd M_Mo_function) 28 = .ok (.iload 4, 2) := by decide +kernel
theorem d_Mo_function_30 : decode (mcd M_Mo_function) 30 = .ok (.iload 4, 2) := by decide +kernel
theorem d_Mo_function_32 : decode (mcd M_Mo_function) 32 = .ok (.ifCond .ne 16, 3) := by decide +kernel
theorem d_Mo_function_35 : decode (mcd M_Mo_function) 35 = .ok (.aload_n 0, 1) := by decide +kernel
theorem d_Mo_function_36 : decode (mcd M_Mo_function) 36 = .ok (.getfield 13, 3) := by decide +kernel
theorem d_Mo_function_39 : decode (mcd M_Mo_function) 39 = .ok (.iload_n 1, 1) := by decide +kernel
theorem d_Mo_function_40 : decode (mcd M_Mo_function) 40 = .ok (.iaload, 1) := by decide +kernel
theorem d_Mo_function_41 : decode (mcd M_Mo_function) 41 = .ok (.ifCond .le 7, 3) := by decide +kernel
theorem d_Mo_function_44 : decode (mcd M_Mo_function) 44 = .ok (.iconst 1, 1) := by decide +kernel
theorem d_Mo_function_45 : decode (mcd M_Mo_function) 45 = .ok (.goto 4, 3) := by decide +kernel
theorem d_Mo_function_48 : decode (mcd M_Mo_function) 48 = .ok (.iconst 0, 1) := by decide +kernel
theorem d_Mo_function_49 : decode (mcd M_Mo_function) 49 = .ok (.invokevirtual 145, 3) := by decide +kernel
theorem d_Mo_function_52 : decode (mcd M_Mo_function) 52 = .ok (.ifCond .eq 4, 3) := by decide +kernel
theorem d_Mo_function_55 : decode (mcd M_Mo_function) 55 = .ok (.return_, 1) := by decide +kernel
theorem d_Mo_function_56 : decode (mcd M_Mo_function) 56 = .ok (.aload_n 0, 1) := by decide +kernel
theorem d_Mo_function_57 : decode (mcd M_Mo_function) 57 = .ok (.getfield 13, 3) := by decide +kernel
theorem d_Mo_function_60 : decode (mcd M_Mo_function) 60 = .ok (.iload_n 1, 1) := by decide +kernel
theorem d_Mo_function_61 : decode (mcd M_Mo_function) 61 = .ok (.iload_n 2, 1) := by decide +kernel
theorem d_Mo_function_62 : decode (mcd M_Mo_function) 62 = .ok (.iastore, 1) := by decide +kernel
theorem d_Mo_function_63 : decode (mcd M_Mo_function) 63 = .ok (.aload_n 0, 1) := by decide +kernel
theorem d_Mo_function_64 : decode (mcd M_Mo_function) 64 = .ok (.getfield 16, 3) := by decide +kernel
theorem d_Mo_function_67 : decode (mcd M_Mo_function) 67 = .ok (.iload_n 1, 1) := by decide +kernel
theorem d_Mo_function_68 : decode (mcd M_Mo_function) 68 = .ok (.iload_n 3, 1) := by decide +kernel
theorem d_Mo_function_69 : decode (mcd M_Mo_function) 69 = .ok (.bastore, 1) := by decide +kernel
theorem d_Mo_function_70 : decode (mcd M_Mo_function) 70 = .ok (.aload_n 0, 1) := by decide +kernel
theorem d_Mo_function_71 : decode (mcd M_Mo_function) 71 = .ok (.iconst 0, 1) := by decide +kernel
theorem d_Mo_function_72 : decode (mcd M_Mo_function) 72 = .ok (.putfield 138, 3) := by decide +kernel
theorem d_Mo_function_75 : decode (mcd M_Mo_function) 75 = .ok (.return_, 1) := by decide +kernel
theorem d_Mo_generalise_0 : decode (mcd M_Mo_generalise) 0 = .ok (.aload_n 0, 1) := by decide +kernel
theorem d_Mo_generalise_1 : decode (mcd M_Mo_generalise) 1 = .ok (.getfield 183, 3) := by decide +kernel
theorem d_Mo_generalise_4 : decode (mcd M_Mo_generalise) 4 = .ok (.istore_n 3, 1) := by decide +kernel
theorem d_Mo_generalise_5 : decode (mcd M_Mo_generalise) 5 = .ok (.bipush 40, 2) := by decide +kernel
theorem d_Mo_generalise_7 : decode (mcd M_Mo_generalise) 7 = .ok (.iload_n 2, 1) := by decide +kernel
theorem d_Mo_generalise_8 : decode (mcd M_Mo_generalise) 8 = .ok (.imul, 1) := by decide +kernel
theorem d_Mo_generalise_9 : decode (mcd M_Mo_generalise) 9 = .ok (.istore 4, 2) := by decide +kernel
theorem d_Mo_generalise_11 : decode (mcd M_Mo_generalise) 11 = .ok (.bipush 40, 2) := by decide +kernel
theorem d_Mo_generalise_13 : decode (mcd M_Mo_generalise) 13 = .ok (.iload_n 1, 1) := by decide +kernel
theorem d_Mo_generalise_14 : decode (mcd M_Mo_generalise) 14 = .ok (.imul, 1) := by decide +kernel
theorem d_Mo_generalise_15 : decode (mcd M_Mo_generalise) 15 = .ok (.istore 5, 2) := by decide +kernel
theorem d_Mo_generalise_17 : decode (mcd M_Mo_generalise) 17 = .ok (.aload_n 0, 1) := by decide +kernel
theorem d_Mo_generalise_18 : decode (mcd M_Mo_generalise) 18 = .ok (.getfield 41, 3) := by decide +kernel
theorem d_Mo_generalise_21 : decode (mcd M_Mo_generalise) 21 = .ok (.iload 4, 2) := by decide +kernel
theorem d_Mo_generalise_23 : decode (mcd M_Mo_generalise) 23 = .ok (.iaload, 1) := by decide +kernel
theorem d_Mo_generalise_24 : decode (mcd M_Mo_generalise) 24 = .ok (.aload_n 0, 1) := by decide +kernel
theorem d_Mo_generalise_25 : decode (mcd M_Mo_generalise) 25 = .ok (.getfield 41, 3) := by decide +kernel
theorem d_Mo_generalise_28 : decode (mcd M_Mo_generalise) 28 = .ok (.iload 5, 2) := by decide +kernel
theorem d_Mo_generalise_30 : decode (mcd M_Mo_generalise) 30 = .ok (.iaload, 1) := by decide +kernel
theorem d_Mo_generalise_31 : decode (mcd M_Mo_generalise) 31 = .ok (.if_icmp .eq 7, 3) := by decide +kernel
theorem d_Mo_generalise_34 : decode (mcd M_Mo_generalise) 34 = .ok (.iconst 1, 1) := by decide +kernel
