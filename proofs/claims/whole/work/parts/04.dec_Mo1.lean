theorem d_Mo_generalise_35 : decode (mcd M_Mo_generalise) 35 = .ok (.goto 4, 3) := by decide +kernel
theorem d_Mo_generalise_38 : decode (mcd M_Mo_generalise) 38 = .ok (.iconst 0, 1) := by decide +kernel
theorem d_Mo_generalise_39 : decode (mcd M_Mo_generalise) 39 = .ok (.istore 6, 2) := by decide +kernel
theorem d_Mo_generalise_41 : decode (mcd M_Mo_generalise) 41 = .ok (.aload_n 0, 1) := by decide +kernel
theorem d_Mo_generalise_42 : decode (mcd M_Mo_generalise) 42 = .ok (.iconst 0, 1) := by decide +kernel
theorem d_Mo_generalise_43 : decode (mcd M_Mo_generalise) 43 = .ok (.putfield 223, 3) := by decide +kernel
theorem d_Mo_generalise_46 : decode (mcd M_Mo_generalise) 46 = .ok (.aload_n 0, 1) := by decide +kernel
theorem d_Mo_generalise_47 : decode (mcd M_Mo_generalise) 47 = .ok (.iconst 0, 1) := by decide +kernel
theorem d_Mo_generalise_48 : decode (mcd M_Mo_generalise) 48 = .ok (.putfield 216, 3) := by decide +kernel
theorem d_Mo_generalise_51 : decode (mcd M_Mo_generalise) 51 = .ok (.iload 6, 2) := by decide +kernel
theorem d_Mo_generalise_53 : decode (mcd M_Mo_generalise) 53 = .ok (.ifCond .eq 111, 3) := by decide +kernel
theorem d_Mo_generalise_56 : decode (mcd M_Mo_generalise) 56 = .ok (.aload_n 0, 1) := by decide +kernel
theorem d_Mo_generalise_57 : decode (mcd M_Mo_generalise) 57 = .ok (.getfield 101, 3) := by decide +kernel
theorem d_Mo_generalise_60 : decode (mcd M_Mo_generalise) 60 = .ok (.iconst 0, 1) := by decide +kernel
theorem d_Mo_generalise_61 : decode (mcd M_Mo_generalise) 61 = .ok (.aload_n 0, 1) := by decide +kernel
theorem d_Mo_generalise_62 : decode (mcd M_Mo_generalise) 62 = .ok (.getfield 41, 3) := by decide +kernel
theorem d_Mo_generalise_65 : decode (mcd M_Mo_generalise) 65 = .ok (.iload 5, 2) := by decide +kernel
theorem d_Mo_generalise_67 : decode (mcd M_Mo_generalise) 67 = .ok (.iaload, 1) := by decide +kernel
theorem d_Mo_generalise_68 : decode (mcd M_Mo_generalise) 68 = .ok (.iastore, 1) := by decide +kernel
theorem d_Mo_generalise_69 : decode (mcd M_Mo_generalise) 69 = .ok (.aload_n 0, 1) := by decide +kernel
theorem d_Mo_generalise_70 : decode (mcd M_Mo_generalise) 70 = .ok (.iconst 1, 1) := by decide +kernel
theorem d_Mo_generalise_71 : decode (mcd M_Mo_generalise) 71 = .ok (.putfield 223, 3) := by decide +kernel
theorem d_Mo_generalise_74 : decode (mcd M_Mo_generalise) 74 = .ok (.iload 5, 2) := by decide +kernel
theorem d_Mo_generalise_76 : decode (mcd M_Mo_generalise) 76 = .ok (.iconst 1, 1) := by decide +kernel
theorem d_Mo_generalise_77 : decode (mcd M_Mo_generalise) 77 = .ok (.iadd, 1) := by decide +kernel
theorem d_Mo_generalise_78 : decode (mcd M_Mo_generalise) 78 = .ok (.istore 7, 2) := by decide +kernel
theorem d_Mo_generalise_80 : decode (mcd M_Mo_generalise) 80 = .ok (.iload 7, 2) := by decide +kernel
theorem d_Mo_generalise_82 : decode (mcd M_Mo_generalise) 82 = .ok (.iload 5, 2) := by decide +kernel
theorem d_Mo_generalise_84 : decode (mcd M_Mo_generalise) 84 = .ok (.aload_n 0, 1) := by decide +kernel
theorem d_Mo_generalise_85 : decode (mcd M_Mo_generalise) 85 = .ok (.getfield 44, 3) := by decide +kernel
theorem d_Mo_generalise_88 : decode (mcd M_Mo_generalise) 88 = .ok (.iload_n 1, 1) := by decide +kernel
theorem d_Mo_generalise_89 : decode (mcd M_Mo_generalise) 89 = .ok (.iaload, 1) := by decide +kernel
theorem d_Mo_generalise_90 : decode (mcd M_Mo_generalise) 90 = .ok (.iadd, 1) := by decide +kernel
theorem d_Mo_generalise_91 : decode (mcd M_Mo_generalise) 91 = .ok (.if_icmp .ge 64, 3) := by decide +kernel
theorem d_Mo_generalise_94 : decode (mcd M_Mo_generalise) 94 = .ok (.aload_n 0, 1) := by decide +kernel
theorem d_Mo_generalise_95 : decode (mcd M_Mo_generalise) 95 = .ok (.getfield 107, 3) := by decide +kernel
theorem d_Mo_generalise_98 : decode (mcd M_Mo_generalise) 98 = .ok (.aload_n 0, 1) := by decide +kernel
theorem d_Mo_generalise_99 : decode (mcd M_Mo_generalise) 99 = .ok (.getfield 216, 3) := by decide +kernel
theorem d_Mo_generalise_102 : decode (mcd M_Mo_generalise) 102 = .ok (.iload 7, 2) := by decide +kernel
theorem d_Mo_generalise_104 : decode (mcd M_Mo_generalise) 104 = .ok (.iastore, 1) := by decide +kernel
theorem d_Mo_generalise_105 : decode (mcd M_Mo_generalise) 105 = .ok (.aload_n 0, 1) := by decide +kernel
theorem d_Mo_generalise_106 : decode (mcd M_Mo_generalise) 106 = .ok (.getfield 101, 3) := by decide +kernel
theorem d_Mo_generalise_109 : decode (mcd M_Mo_generalise) 109 = .ok (.aload_n 0, 1) := by decide +kernel
theorem d_Mo_generalise_110 : decode (mcd M_Mo_generalise) 110 = .ok (.getfield 223, 3) := by decide +kernel
theorem d_Mo_generalise_113 : decode (mcd M_Mo_generalise) 113 = .ok (.iload_n 3, 1) := by decide +kernel
theorem d_Mo_generalise_114 : decode (mcd M_Mo_generalise) 114 = .ok (.aload_n 0, 1) := by decide +kernel
theorem d_Mo_generalise_115 : decode (mcd M_Mo_generalise) 115 = .ok (.getfield 216, 3) := by decide +kernel
theorem d_Mo_generalise_118 : decode (mcd M_Mo_generalise) 118 = .ok (.iadd, 1) := by decide +kernel
theorem d_Mo_generalise_119 : decode (mcd M_Mo_generalise) 119 = .ok (.iastore, 1) := by decide +kernel
theorem d_Mo_generalise_120 : decode (mcd M_Mo_generalise) 120 = .ok (.aload_n 0, 1) := by decide +kernel
theorem d_Mo_generalise_121 : decode (mcd M_Mo_generalise) 121 = .ok (.dup, 1) := by decide +kernel
theorem d_Mo_generalise_122 : decode (mcd M_Mo_generalise) 122 = .ok (.getfield 216, 3) := by decide +kernel
theorem d_Mo_generalise_125 : decode (mcd M_Mo_generalise) 125 = .ok (.iconst 1, 1) := by decide +kernel
theorem d_Mo_generalise_126 : decode (mcd M_Mo_generalise) 126 = .ok (.iadd, 1) := by decide +kernel
theorem d_Mo_generalise_127 : decode (mcd M_Mo_generalise) 127 = .ok (.putfield 216, 3) := by decide +kernel
theorem d_Mo_generalise_130 : decode (mcd M_Mo_generalise) 130 = .ok (.aload_n 0, 1) := by decide +kernel
theorem d_Mo_generalise_131 : decode (mcd M_Mo_generalise) 131 = .ok (.dup, 1) := by decide +kernel
theorem d_Mo_generalise_132 : decode (mcd M_Mo_generalise) 132 = .ok (.getfield 223, 3) := by decide +kernel
theorem d_Mo_generalise_135 : decode (mcd M_Mo_generalise) 135 = .ok (.iconst 1, 1) := by decide +kernel
theorem d_Mo_generalise_136 : decode (mcd M_Mo_generalise) 136 = .ok (.iadd, 1) := by decide +kernel
theorem d_Mo_generalise_137 : decode (mcd M_Mo_generalise) 137 = .ok (.putfield 223, 3) := by decide +kernel
theorem d_Mo_generalise_140 : decode (mcd M_Mo_generalise) 140 = .ok (.aload_n 0, 1) := by decide +kernel
theorem d_Mo_generalise_141 : decode (mcd M_Mo_generalise) 141 = .ok (.aload_n 0, 1) := by decide +kernel
theorem d_Mo_generalise_142 : decode (mcd M_Mo_generalise) 142 = .ok (.getfield 41, 3) := by decide +kernel
theorem d_Mo_generalise_145 : decode (mcd M_Mo_generalise) 145 = .ok (.iload 7, 2) := by decide +kernel
theorem d_Mo_generalise_147 : decode (mcd M_Mo_generalise) 147 = .ok (.invokevirtual 164, 3) := by decide +kernel
theorem d_Mo_generalise_150 : decode (mcd M_Mo_generalise) 150 = .ok (.istore 7, 2) := by decide +kernel
theorem d_Mo_generalise_152 : decode (mcd M_Mo_generalise) 152 = .ok (.goto (-72), 3) := by decide +kernel
theorem d_Mo_generalise_155 : decode (mcd M_Mo_generalise) 155 = .ok (.aload_n 0, 1) := by decide +kernel
theorem d_Mo_generalise_156 : decode (mcd M_Mo_generalise) 156 = .ok (.aload_n 0, 1) := by decide +kernel
theorem d_Mo_generalise_157 : decode (mcd M_Mo_generalise) 157 = .ok (.getfield 216, 3) := by decide +kernel
theorem d_Mo_generalise_160 : decode (mcd M_Mo_generalise) 160 = .ok (.invokevirtual 209, 3) := by decide +kernel
theorem d_Mo_generalise_163 : decode (mcd M_Mo_generalise) 163 = .ok (.pop, 1) := by decide +kernel
theorem d_Mo_generalise_164 : decode (mcd M_Mo_generalise) 164 = .ok (.iload 6, 2) := by decide +kernel
theorem d_Mo_generalise_166 : decode (mcd M_Mo_generalise) 166 = .ok (.ifCond .ne 107, 3) := by decide +kernel
theorem d_Mo_generalise_169 : decode (mcd M_Mo_generalise) 169 = .ok (.iload 4, 2) := by decide +kernel
theorem d_Mo_generalise_171 : decode (mcd M_Mo_generalise) 171 = .ok (.bipush 40, 2) := by decide +kernel
theorem d_Mo_generalise_173 : decode (mcd M_Mo_generalise) 173 = .ok (.iload_n 2, 1) := by decide +kernel
theorem d_Mo_generalise_174 : decode (mcd M_Mo_generalise) 174 = .ok (.imul, 1) := by decide +kernel
theorem d_Mo_generalise_175 : decode (mcd M_Mo_generalise) 175 = .ok (.aload_n 0, 1) := by decide +kernel
theorem d_Mo_generalise_176 : decode (mcd M_Mo_generalise) 176 = .ok (.getfield 44, 3) := by decide +kernel
theorem d_Mo_generalise_179 : decode (mcd M_Mo_generalise) 179 = .ok (.iload_n 2, 1) := by decide +kernel
theorem d_Mo_generalise_180 : decode (mcd M_Mo_generalise) 180 = .ok (.iaload, 1) := by decide +kernel
theorem d_Mo_generalise_181 : decode (mcd M_Mo_generalise) 181 = .ok (.iadd, 1) := by decide +kernel
theorem d_Mo_generalise_182 : decode (mcd M_Mo_generalise) 182 = .ok (.if_icmp .ge 91, 3) := by decide +kernel
theorem d_Mo_generalise_185 : decode (mcd M_Mo_generalise) 185 = .ok (.aload_n 0, 1) := by decide +kernel
theorem d_Mo_generalise_186 : decode (mcd M_Mo_generalise) 186 = .ok (.getfield 41, 3) := by decide +kernel
theorem d_Mo_generalise_189 : decode (mcd M_Mo_generalise) 189 = .ok (.iload 4, 2) := by decide +kernel
theorem d_Mo_generalise_191 : decode (mcd M_Mo_generalise) 191 = .ok (.iaload, 1) := by decide +kernel
theorem d_Mo_generalise_192 : decode (mcd M_Mo_generalise) 192 = .ok (.aload_n 0, 1) := by decide +kernel
theorem d_Mo_generalise_193 : decode (mcd M_Mo_generalise) 193 = .ok (.getfield 41, 3) := by decide +kernel
theorem d_Mo_generalise_196 : decode (mcd M_Mo_generalise) 196 = .ok (.iload 5, 2) := by decide +kernel
theorem d_Mo_generalise_198 : decode (mcd M_Mo_generalise) 198 = .ok (.iaload, 1) := by decide +kernel
theorem d_Mo_generalise_199 : decode (mcd M_Mo_generalise) 199 = .ok (.if_icmp .ne 38, 3) := by decide +kernel
theorem d_Mo_generalise_202 : decode (mcd M_Mo_generalise) 202 = .ok (.aload_n 0, 1) := by decide +kernel
theorem d_Mo_generalise_203 : decode (mcd M_Mo_generalise) 203 = .ok (.getfield 101, 3) := by decide +kernel
theorem d_Mo_generalise_206 : decode (mcd M_Mo_generalise) 206 = .ok (.aload_n 0, 1) := by decide +kernel
theorem d_Mo_generalise_207 : decode (mcd M_Mo_generalise) 207 = .ok (.getfield 223, 3) := by decide +kernel
theorem d_Mo_generalise_210 : decode (mcd M_Mo_generalise) 210 = .ok (.aload_n 0, 1) := by decide +kernel
theorem d_Mo_generalise_211 : decode (mcd M_Mo_generalise) 211 = .ok (.getfield 41, 3) := by decide +kernel
theorem d_Mo_generalise_214 : decode (mcd M_Mo_generalise) 214 = .ok (.iload 4, 2) := by decide +kernel
theorem d_Mo_generalise_216 : decode (mcd M_Mo_generalise) 216 = .ok (.iaload, 1) := by decide +kernel
theorem d_Mo_generalise_217 : decode (mcd M_Mo_generalise) 217 = .ok (.iastore, 1) := by decide +kernel
theorem d_Mo_generalise_218 : decode (mcd M_Mo_generalise) 218 = .ok (.aload_n 0, 1) := by decide +kernel
theorem d_Mo_generalise_219 : decode (mcd M_Mo_generalise) 219 = .ok (.dup, 1) := by decide +kernel
theorem d_Mo_generalise_220 : decode (mcd M_Mo_generalise) 220 = .ok (.getfield 223, 3) := by decide +kernel
theorem d_Mo_generalise_223 : decode (mcd M_Mo_generalise) 223 = .ok (.iconst 1, 1) := by decide +kernel
theorem d_Mo_generalise_224 : decode (mcd M_Mo_generalise) 224 = .ok (.iadd, 1) := by decide +kernel
theorem d_Mo_generalise_225 : decode (mcd M_Mo_generalise) 225 = .ok (.putfield 223, 3) := by decide +kernel
theorem d_Mo_generalise_228 : decode (mcd M_Mo_generalise) 228 = .ok (.iinc 4 1, 3) := by decide +kernel
theorem d_Mo_generalise_231 : decode (mcd M_Mo_generalise) 231 = .ok (.iinc 5 1, 3) := by decide +kernel
theorem d_Mo_generalise_234 : decode (mcd M_Mo_generalise) 234 = .ok (.goto (-70), 3) := by decide +kernel
theorem d_Mo_generalise_237 : decode (mcd M_Mo_generalise) 237 = .ok (.aload_n 0, 1) := by decide +kernel
theorem d_Mo_generalise_238 : decode (mcd M_Mo_generalise) 238 = .ok (.iload_n 3, 1) := by decide +kernel
theorem d_Mo_generalise_239 : decode (mcd M_Mo_generalise) 239 = .ok (.iload 4, 2) := by decide +kernel
theorem d_Mo_generalise_241 : decode (mcd M_Mo_generalise) 241 = .ok (.iload 5, 2) := by decide +kernel
theorem d_Mo_generalise_243 : decode (mcd M_Mo_generalise) 243 = .ok (.invokevirtual 226, 3) := by decide +kernel
theorem d_Mo_generalise_246 : decode (mcd M_Mo_generalise) 246 = .ok (.aload_n 0, 1) := by decide +kernel
theorem d_Mo_generalise_247 : decode (mcd M_Mo_generalise) 247 = .ok (.aload_n 0, 1) := by decide +kernel
theorem d_Mo_generalise_248 : decode (mcd M_Mo_generalise) 248 = .ok (.getfield 41, 3) := by decide +kernel
theorem d_Mo_generalise_251 : decode (mcd M_Mo_generalise) 251 = .ok (.iload 4, 2) := by decide +kernel
theorem d_Mo_generalise_253 : decode (mcd M_Mo_generalise) 253 = .ok (.invokevirtual 164, 3) := by decide +kernel
theorem d_Mo_generalise_256 : decode (mcd M_Mo_generalise) 256 = .ok (.istore 4, 2) := by decide +kernel
theorem d_Mo_generalise_258 : decode (mcd M_Mo_generalise) 258 = .ok (.aload_n 0, 1) := by decide +kernel
theorem d_Mo_generalise_259 : decode (mcd M_Mo_generalise) 259 = .ok (.aload_n 0, 1) := by decide +kernel
theorem d_Mo_generalise_260 : decode (mcd M_Mo_generalise) 260 = .ok (.getfield 41, 3) := by decide +kernel
theorem d_Mo_generalise_263 : decode (mcd M_Mo_generalise) 263 = .ok (.iload 5, 2) := by decide +kernel
theorem d_Mo_generalise_265 : decode (mcd M_Mo_generalise) 265 = .ok (.invokevirtual 164, 3) := by decide +kernel
theorem d_Mo_generalise_268 : decode (mcd M_Mo_generalise) 268 = .ok (.istore 5, 2) := by decide +kernel
theorem d_Mo_generalise_270 : decode (mcd M_Mo_generalise) 270 = .ok (.goto (-106), 3) := by decide +kernel
theorem d_Mo_generalise_273 : decode (mcd M_Mo_generalise) 273 = .ok (.aload_n 0, 1) := by decide +kernel
theorem d_Mo_generalise_274 : decode (mcd M_Mo_generalise) 274 = .ok (.getfield 177, 3) := by decide +kernel
theorem d_Mo_generalise_277 : decode (mcd M_Mo_generalise) 277 = .ok (.ifCond .eq 4, 3) := by decide +kernel
theorem d_Mo_generalise_280 : decode (mcd M_Mo_generalise) 280 = .ok (.return_, 1) := by decide +kernel
theorem d_Mo_generalise_281 : decode (mcd M_Mo_generalise) 281 = .ok (.iload 6, 2) := by decide +kernel
theorem d_Mo_generalise_283 : decode (mcd M_Mo_generalise) 283 = .ok (.ifCond .ne 33, 3) := by decide +kernel
theorem d_Mo_generalise_286 : decode (mcd M_Mo_generalise) 286 = .ok (.aload_n 0, 1) := by decide +kernel
theorem d_Mo_generalise_287 : decode (mcd M_Mo_generalise) 287 = .ok (.aload_n 0, 1) := by decide +kernel
theorem d_Mo_generalise_288 : decode (mcd M_Mo_generalise) 288 = .ok (.getfield 41, 3) := by decide +kernel
theorem d_Mo_generalise_291 : decode (mcd M_Mo_generalise) 291 = .ok (.bipush 40, 2) := by decide +kernel
theorem d_Mo_generalise_293 : decode (mcd M_Mo_generalise) 293 = .ok (.iload_n 2, 1) := by decide +kernel
theorem d_Mo_generalise_294 : decode (mcd M_Mo_generalise) 294 = .ok (.imul, 1) := by decide +kernel
theorem d_Mo_generalise_295 : decode (mcd M_Mo_generalise) 295 = .ok (.aload_n 0, 1) := by decide +kernel
theorem d_Mo_generalise_296 : decode (mcd M_Mo_generalise) 296 = .ok (.getfield 44, 3) := by decide +kernel
theorem d_Mo_generalise_299 : decode (mcd M_Mo_generalise) 299 = .ok (.iload_n 2, 1) := by decide +kernel
theorem d_Mo_generalise_300 : decode (mcd M_Mo_generalise) 300 = .ok (.iaload, 1) := by decide +kernel
theorem d_Mo_generalise_301 : decode (mcd M_Mo_generalise) 301 = .ok (.aload_n 0, 1) := by decide +kernel
theorem d_Mo_generalise_302 : decode (mcd M_Mo_generalise) 302 = .ok (.getfield 101, 3) := by decide +kernel
theorem d_Mo_generalise_305 : decode (mcd M_Mo_generalise) 305 = .ok (.iconst 0, 1) := by decide +kernel
theorem d_Mo_generalise_306 : decode (mcd M_Mo_generalise) 306 = .ok (.aload_n 0, 1) := by decide +kernel
theorem d_Mo_generalise_307 : decode (mcd M_Mo_generalise) 307 = .ok (.getfield 223, 3) := by decide +kernel
theorem d_Mo_generalise_310 : decode (mcd M_Mo_generalise) 310 = .ok (.invokevirtual 186, 3) := by decide +kernel
theorem d_Mo_generalise_313 : decode (mcd M_Mo_generalise) 313 = .ok (.ifCond .eq 7, 3) := by decide +kernel
theorem d_Mo_generalise_316 : decode (mcd M_Mo_generalise) 316 = .ok (.iconst 1, 1) := by decide +kernel
theorem d_Mo_generalise_317 : decode (mcd M_Mo_generalise) 317 = .ok (.goto 4, 3) := by decide +kernel
theorem d_Mo_generalise_320 : decode (mcd M_Mo_generalise) 320 = .ok (.iconst 0, 1) := by decide +kernel
theorem d_Mo_generalise_321 : decode (mcd M_Mo_generalise) 321 = .ok (.istore 7, 2) := by decide +kernel
theorem d_Mo_generalise_323 : decode (mcd M_Mo_generalise) 323 = .ok (.iload 7, 2) := by decide +kernel
theorem d_Mo_generalise_325 : decode (mcd M_Mo_generalise) 325 = .ok (.ifCond .ne 8, 3) := by decide +kernel
theorem d_Mo_generalise_328 : decode (mcd M_Mo_generalise) 328 = .ok (.aload_n 0, 1) := by decide +kernel
theorem d_Mo_generalise_329 : decode (mcd M_Mo_generalise) 329 = .ok (.iload_n 2, 1) := by decide +kernel
theorem d_Mo_generalise_330 : decode (mcd M_Mo_generalise) 330 = .ok (.invokevirtual 230, 3) := by decide +kernel
theorem d_Mo_generalise_333 : decode (mcd M_Mo_generalise) 333 = .ok (.aload_n 0, 1) := by decide +kernel
theorem d_Mo_generalise_334 : decode (mcd M_Mo_generalise) 334 = .ok (.iload 7, 2) := by decide +kernel
theorem d_Mo_generalise_336 : decode (mcd M_Mo_generalise) 336 = .ok (.ifCond .eq 7, 3) := by decide +kernel
theorem d_Mo_generalise_339 : decode (mcd M_Mo_generalise) 339 = .ok (.iload_n 1, 1) := by decide +kernel
theorem d_Mo_generalise_340 : decode (mcd M_Mo_generalise) 340 = .ok (.goto 4, 3) := by decide +kernel
theorem d_Mo_generalise_343 : decode (mcd M_Mo_generalise) 343 = .ok (.iload_n 2, 1) := by decide +kernel
theorem d_Mo_generalise_344 : decode (mcd M_Mo_generalise) 344 = .ok (.bipush 7, 2) := by decide +kernel
theorem d_Mo_generalise_346 : decode (mcd M_Mo_generalise) 346 = .ok (.invokevirtual 201, 3) := by decide +kernel
theorem d_Mo_generalise_349 : decode (mcd M_Mo_generalise) 349 = .ok (.aload_n 0, 1) := by decide +kernel
theorem d_Mo_generalise_350 : decode (mcd M_Mo_generalise) 350 = .ok (.iload 7, 2) := by decide +kernel
theorem d_Mo_generalise_352 : decode (mcd M_Mo_generalise) 352 = .ok (.ifCond .eq 7, 3) := by decide +kernel
theorem d_Mo_generalise_355 : decode (mcd M_Mo_generalise) 355 = .ok (.iload_n 1, 1) := by decide +kernel
theorem d_Mo_generalise_356 : decode (mcd M_Mo_generalise) 356 = .ok (.goto 4, 3) := by decide +kernel
theorem d_Mo_generalise_359 : decode (mcd M_Mo_generalise) 359 = .ok (.iload_n 2, 1) := by decide +kernel
theorem d_Mo_generalise_360 : decode (mcd M_Mo_generalise) 360 = .ok (.iload_n 3, 1) := by decide +kernel
theorem d_Mo_generalise_361 : decode (mcd M_Mo_generalise) 361 = .ok (.iload 7, 2) := by decide +kernel
theorem d_Mo_generalise_363 : decode (mcd M_Mo_generalise) 363 = .ok (.ifCond .eq 10, 3) := by decide +kernel
theorem d_Mo_generalise_366 : decode (mcd M_Mo_generalise) 366 = .ok (.aload_n 0, 1) := by decide +kernel
theorem d_Mo_generalise_367 : decode (mcd M_Mo_generalise) 367 = .ok (.getfield 107, 3) := by decide +kernel
theorem d_Mo_generalise_370 : decode (mcd M_Mo_generalise) 370 = .ok (.goto 7, 3) := by decide +kernel
theorem d_Mo_generalise_373 : decode (mcd M_Mo_generalise) 373 = .ok (.aload_n 0, 1) := by decide +kernel
theorem d_Mo_generalise_374 : decode (mcd M_Mo_generalise) 374 = .ok (.getfield 104, 3) := by decide +kernel
theorem d_Mo_generalise_377 : decode (mcd M_Mo_generalise) 377 = .ok (.invokevirtual 233, 3) := by decide +kernel
theorem d_Mo_generalise_380 : decode (mcd M_Mo_generalise) 380 = .ok (.return_, 1) := by decide +kernel
theorem d_Mo_goBelow_0 : decode (mcd M_Mo_goBelow) 0 = .ok (.iload_n 1, 1) := by decide +kernel
theorem d_Mo_goBelow_1 : decode (mcd M_Mo_goBelow) 1 = .ok (.iconst 1, 1) := by decide +kernel
theorem d_Mo_goBelow_2 : decode (mcd M_Mo_goBelow) 2 = .ok (.iadd, 1) := by decide +kernel
theorem d_Mo_goBelow_3 : decode (mcd M_Mo_goBelow) 3 = .ok (.istore_n 2, 1) := by decide +kernel
theorem d_Mo_goBelow_4 : decode (mcd M_Mo_goBelow) 4 = .ok (.iload_n 2, 1) := by decide +kernel
theorem d_Mo_goBelow_5 : decode (mcd M_Mo_goBelow) 5 = .ok (.aload_n 0, 1) := by decide +kernel
theorem d_Mo_goBelow_6 : decode (mcd M_Mo_goBelow) 6 = .ok (.getfield 180, 3) := by decide +kernel
theorem d_Mo_goBelow_9 : decode (mcd M_Mo_goBelow) 9 = .ok (.if_icmp .ge 43, 3) := by decide +kernel
theorem d_Mo_goBelow_12 : decode (mcd M_Mo_goBelow) 12 = .ok (.aload_n 0, 1) := by decide +kernel
theorem d_Mo_goBelow_13 : decode (mcd M_Mo_goBelow) 13 = .ok (.getfield 38, 3) := by decide +kernel
theorem d_Mo_goBelow_16 : decode (mcd M_Mo_goBelow) 16 = .ok (.iload_n 2, 1) := by decide +kernel
theorem d_Mo_goBelow_17 : decode (mcd M_Mo_goBelow) 17 = .ok (.iaload, 1) := by decide +kernel
theorem d_Mo_goBelow_18 : decode (mcd M_Mo_goBelow) 18 = .ok (.istore_n 3, 1) := by decide +kernel
theorem d_Mo_goBelow_19 : decode (mcd M_Mo_goBelow) 19 = .ok (.iload_n 3, 1) := by decide +kernel
theorem d_Mo_goBelow_20 : decode (mcd M_Mo_goBelow) 20 = .ok (.iload_n 1, 1) := by decide +kernel
theorem d_Mo_goBelow_21 : decode (mcd M_Mo_goBelow) 21 = .ok (.if_icmp .le 13, 3) := by decide +kernel
theorem d_Mo_goBelow_24 : decode (mcd M_Mo_goBelow) 24 = .ok (.aload_n 0, 1) := by decide +kernel
theorem d_Mo_goBelow_25 : decode (mcd M_Mo_goBelow) 25 = .ok (.getfield 38, 3) := by decide +kernel
theorem d_Mo_goBelow_28 : decode (mcd M_Mo_goBelow) 28 = .ok (.iload_n 3, 1) := by decide +kernel
theorem d_Mo_goBelow_29 : decode (mcd M_Mo_goBelow) 29 = .ok (.iaload, 1) := by decide +kernel
theorem d_Mo_goBelow_30 : decode (mcd M_Mo_goBelow) 30 = .ok (.istore_n 3, 1) := by decide +kernel
theorem d_Mo_goBelow_31 : decode (mcd M_Mo_goBelow) 31 = .ok (.goto (-12), 3) := by decide +kernel
theorem d_Mo_goBelow_34 : decode (mcd M_Mo_goBelow) 34 = .ok (.iload_n 3, 1) := by decide +kernel
theorem d_Mo_goBelow_35 : decode (mcd M_Mo_goBelow) 35 = .ok (.iload_n 1, 1) := by decide +kernel
theorem d_Mo_goBelow_36 : decode (mcd M_Mo_goBelow) 36 = .ok (.if_icmp .ne 10, 3) := by decide +kernel
theorem d_Mo_goBelow_39 : decode (mcd M_Mo_goBelow) 39 = .ok (.aload_n 0, 1) := by decide +kernel
theorem d_Mo_goBelow_40 : decode (mcd M_Mo_goBelow) 40 = .ok (.getfield 35, 3) := by decide +kernel
theorem d_Mo_goBelow_43 : decode (mcd M_Mo_goBelow) 43 = .ok (.iload_n 2, 1) := by decide +kernel
theorem d_Mo_goBelow_44 : decode (mcd M_Mo_goBelow) 44 = .ok (.iconst 0, 1) := by decide +kernel
theorem d_Mo_goBelow_45 : decode (mcd M_Mo_goBelow) 45 = .ok (.iastore, 1) := by decide +kernel
theorem d_Mo_goBelow_46 : decode (mcd M_Mo_goBelow) 46 = .ok (.iinc 2 1, 3) := by decide +kernel
theorem d_Mo_goBelow_49 : decode (mcd M_Mo_goBelow) 49 = .ok (.goto (-45), 3) := by decide +kernel
theorem d_Mo_goBelow_52 : decode (mcd M_Mo_goBelow) 52 = .ok (.return_, 1) := by decide +kernel
theorem d_Mo_goal_0 : decode (mcd M_Mo_goal) 0 = .ok (.aload_n 0, 1) := by decide +kernel
theorem d_Mo_goal_1 : decode (mcd M_Mo_goal) 1 = .ok (.aload_n 0, 1) := by decide +kernel
theorem d_Mo_goal_2 : decode (mcd M_Mo_goal) 2 = .ok (.bipush 8, 2) := by decide +kernel
theorem d_Mo_goal_4 : decode (mcd M_Mo_goal) 4 = .ok (.iconst 1, 1) := by decide +kernel
theorem d_Mo_goal_5 : decode (mcd M_Mo_goal) 5 = .ok (.invokevirtual 149, 3) := by decide +kernel
theorem d_Mo_goal_8 : decode (mcd M_Mo_goal) 8 = .ok (.ifCond .ne 7, 3) := by decide +kernel
theorem d_Mo_goal_11 : decode (mcd M_Mo_goal) 11 = .ok (.iconst 1, 1) := by decide +kernel
theorem d_Mo_goal_12 : decode (mcd M_Mo_goal) 12 = .ok (.goto 4, 3) := by decide +kernel
theorem d_Mo_goal_15 : decode (mcd M_Mo_goal) 15 = .ok (.iconst 0, 1) := by decide +kernel
theorem d_Mo_goal_16 : decode (mcd M_Mo_goal) 16 = .ok (.iconst 0, 1) := by decide +kernel
theorem d_Mo_goal_17 : decode (mcd M_Mo_goal) 17 = .ok (.invokevirtual 145, 3) := by decide +kernel
theorem d_Mo_goal_20 : decode (mcd M_Mo_goal) 20 = .ok (.ifCond .eq 4, 3) := by decide +kernel
theorem d_Mo_goal_23 : decode (mcd M_Mo_goal) 23 = .ok (.return_, 1) := by decide +kernel
theorem d_Mo_goal_24 : decode (mcd M_Mo_goal) 24 = .ok (.aload_n 0, 1) := by decide +kernel
theorem d_Mo_goal_25 : decode (mcd M_Mo_goal) 25 = .ok (.aload_n 0, 1) := by decide +kernel
theorem d_Mo_goal_26 : decode (mcd M_Mo_goal) 26 = .ok (.aload_n 0, 1) := by decide +kernel
theorem d_Mo_goal_27 : decode (mcd M_Mo_goal) 27 = .ok (.getfield 26, 3) := by decide +kernel
theorem d_Mo_goal_30 : decode (mcd M_Mo_goal) 30 = .ok (.iconst 0, 1) := by decide +kernel
theorem d_Mo_goal_31 : decode (mcd M_Mo_goal) 31 = .ok (.invokevirtual 153, 3) := by decide +kernel
theorem d_Mo_goal_34 : decode (mcd M_Mo_goal) 34 = .ok (.putfield 135, 3) := by decide +kernel
theorem d_Mo_goal_37 : decode (mcd M_Mo_goal) 37 = .ok (.aload_n 0, 1) := by decide +kernel
theorem d_Mo_goal_38 : decode (mcd M_Mo_goal) 38 = .ok (.iconst 0, 1) := by decide +kernel
theorem d_Mo_goal_39 : decode (mcd M_Mo_goal) 39 = .ok (.putfield 138, 3) := by decide +kernel
theorem d_Mo_goal_42 : decode (mcd M_Mo_goal) 42 = .ok (.return_, 1) := by decide +kernel
theorem d_Mo_hasInputs_0 : decode (mcd M_Mo_hasInputs) 0 = .ok (.iconst 1, 1) := by decide +kernel
theorem d_Mo_hasInputs_1 : decode (mcd M_Mo_hasInputs) 1 = .ok (.istore_n 1, 1) := by decide +kernel
theorem d_Mo_hasInputs_2 : decode (mcd M_Mo_hasInputs) 2 = .ok (.iconst 0, 1) := by decide +kernel
theorem d_Mo_hasInputs_3 : decode (mcd M_Mo_hasInputs) 3 = .ok (.istore_n 2, 1) := by decide +kernel
theorem d_Mo_hasInputs_4 : decode (mcd M_Mo_hasInputs) 4 = .ok (.iload_n 2, 1) := by decide +kernel
theorem d_Mo_hasInputs_5 : decode (mcd M_Mo_hasInputs) 5 = .ok (.aload_n 0, 1) := by decide +kernel
theorem d_Mo_hasInputs_6 : decode (mcd M_Mo_hasInputs) 6 = .ok (.getfield 135, 3) := by decide +kernel
theorem d_Mo_hasInputs_9 : decode (mcd M_Mo_hasInputs) 9 = .ok (.if_icmp .ge 44, 3) := by decide +kernel
theorem d_Mo_hasInputs_12 : decode (mcd M_Mo_hasInputs) 12 = .ok (.iload_n 1, 1) := by decide +kernel
theorem d_Mo_hasInputs_13 : decode (mcd M_Mo_hasInputs) 13 = .ok (.ifCond .eq 32, 3) := by decide +kernel
theorem d_Mo_hasInputs_16 : decode (mcd M_Mo_hasInputs) 16 = .ok (.aload_n 0, 1) := by decide +kernel
theorem d_Mo_hasInputs_17 : decode (mcd M_Mo_hasInputs) 17 = .ok (.getfield 26, 3) := by decide +kernel
theorem d_Mo_hasInputs_20 : decode (mcd M_Mo_hasInputs) 20 = .ok (.iload_n 2, 1) := by decide +kernel
theorem d_Mo_hasInputs_21 : decode (mcd M_Mo_hasInputs) 21 = .ok (.iaload, 1) := by decide +kernel
theorem d_Mo_hasInputs_22 : decode (mcd M_Mo_hasInputs) 22 = .ok (.bipush 100, 2) := by decide +kernel
theorem d_Mo_hasInputs_24 : decode (mcd M_Mo_hasInputs) 24 = .ok (.if_icmp .ge 17, 3) := by decide +kernel
theorem d_Mo_hasInputs_27 : decode (mcd M_Mo_hasInputs) 27 = .ok (.aload_n 0, 1) := by decide +kernel
theorem d_Mo_hasInputs_28 : decode (mcd M_Mo_hasInputs) 28 = .ok (.getfield 32, 3) := by decide +kernel
theorem d_Mo_hasInputs_31 : decode (mcd M_Mo_hasInputs) 31 = .ok (.aload_n 0, 1) := by decide +kernel
theorem d_Mo_hasInputs_32 : decode (mcd M_Mo_hasInputs) 32 = .ok (.getfield 26, 3) := by decide +kernel
theorem d_Mo_hasInputs_35 : decode (mcd M_Mo_hasInputs) 35 = .ok (.iload_n 2, 1) := by decide +kernel
theorem d_Mo_hasInputs_36 : decode (mcd M_Mo_hasInputs) 36 = .ok (.iaload, 1) := by decide +kernel
theorem d_Mo_hasInputs_37 : decode (mcd M_Mo_hasInputs) 37 = .ok (.iaload, 1) := by decide +kernel
theorem d_Mo_hasInputs_38 : decode (mcd M_Mo_hasInputs) 38 = .ok (.ifCond .le 7, 3) := by decide +kernel
theorem d_Mo_hasInputs_41 : decode (mcd M_Mo_hasInputs) 41 = .ok (.iconst 1, 1) := by decide +kernel
theorem d_Mo_hasInputs_42 : decode (mcd M_Mo_hasInputs) 42 = .ok (.goto 4, 3) := by decide +kernel
theorem d_Mo_hasInputs_45 : decode (mcd M_Mo_hasInputs) 45 = .ok (.iconst 0, 1) := by decide +kernel
theorem d_Mo_hasInputs_46 : decode (mcd M_Mo_hasInputs) 46 = .ok (.istore_n 1, 1) := by decide +kernel
theorem d_Mo_hasInputs_47 : decode (mcd M_Mo_hasInputs) 47 = .ok (.iinc 2 1, 3) := by decide +kernel
theorem d_Mo_hasInputs_50 : decode (mcd M_Mo_hasInputs) 50 = .ok (.goto (-46), 3) := by decide +kernel
theorem d_Mo_hasInputs_53 : decode (mcd M_Mo_hasInputs) 53 = .ok (.iload_n 1, 1) := by decide +kernel
theorem d_Mo_hasInputs_54 : decode (mcd M_Mo_hasInputs) 54 = .ok (.ireturn, 1) := by decide +kernel
theorem d_Mo_hold_0 : decode (mcd M_Mo_hold) 0 = .ok (.bipush 40, 2) := by decide +kernel
theorem d_Mo_hold_2 : decode (mcd M_Mo_hold) 2 = .ok (.iload_n 1, 1) := by decide +kernel
theorem d_Mo_hold_3 : decode (mcd M_Mo_hold) 3 = .ok (.imul, 1) := by decide +kernel
theorem d_Mo_hold_4 : decode (mcd M_Mo_hold) 4 = .ok (.istore_n 3, 1) := by decide +kernel
theorem d_Mo_hold_5 : decode (mcd M_Mo_hold) 5 = .ok (.iload_n 3, 1) := by decide +kernel
theorem d_Mo_hold_6 : decode (mcd M_Mo_hold) 6 = .ok (.bipush 40, 2) := by decide +kernel
theorem d_Mo_hold_8 : decode (mcd M_Mo_hold) 8 = .ok (.iload_n 1, 1) := by decide +kernel
theorem d_Mo_hold_9 : decode (mcd M_Mo_hold) 9 = .ok (.imul, 1) := by decide +kernel
theorem d_Mo_hold_10 : decode (mcd M_Mo_hold) 10 = .ok (.aload_n 0, 1) := by decide +kernel
theorem d_Mo_hold_11 : decode (mcd M_Mo_hold) 11 = .ok (.getfield 71, 3) := by decide +kernel
theorem d_Mo_hold_14 : decode (mcd M_Mo_hold) 14 = .ok (.iload_n 1, 1) := by decide +kernel
theorem d_Mo_hold_15 : decode (mcd M_Mo_hold) 15 = .ok (.iaload, 1) := by decide +kernel
theorem d_Mo_hold_16 : decode (mcd M_Mo_hold) 16 = .ok (.iadd, 1) := by decide +kernel
theorem d_Mo_hold_17 : decode (mcd M_Mo_hold) 17 = .ok (.if_icmp .ge 20, 3) := by decide +kernel
theorem d_Mo_hold_20 : decode (mcd M_Mo_hold) 20 = .ok (.aload_n 0, 1) := by decide +kernel
theorem d_Mo_hold_21 : decode (mcd M_Mo_hold) 21 = .ok (.getfield 68, 3) := by decide +kernel
theorem d_Mo_hold_24 : decode (mcd M_Mo_hold) 24 = .ok (.iload_n 3, 1) := by decide +kernel
theorem d_Mo_hold_25 : decode (mcd M_Mo_hold) 25 = .ok (.iaload, 1) := by decide +kernel
theorem d_Mo_hold_26 : decode (mcd M_Mo_hold) 26 = .ok (.iload_n 2, 1) := by decide +kernel
theorem d_Mo_hold_27 : decode (mcd M_Mo_hold) 27 = .ok (.if_icmp .ne 4, 3) := by decide +kernel
theorem d_Mo_hold_30 : decode (mcd M_Mo_hold) 30 = .ok (.return_, 1) := by decide +kernel
theorem d_Mo_hold_31 : decode (mcd M_Mo_hold) 31 = .ok (.iinc 3 1, 3) := by decide +kernel
theorem d_Mo_hold_34 : decode (mcd M_Mo_hold) 34 = .ok (.goto (-29), 3) := by decide +kernel
theorem d_Mo_hold_37 : decode (mcd M_Mo_hold) 37 = .ok (.aload_n 0, 1) := by decide +kernel
theorem d_Mo_hold_38 : decode (mcd M_Mo_hold) 38 = .ok (.getfield 68, 3) := by decide +kernel
theorem d_Mo_hold_41 : decode (mcd M_Mo_hold) 41 = .ok (.bipush 40, 2) := by decide +kernel
theorem d_Mo_hold_43 : decode (mcd M_Mo_hold) 43 = .ok (.iload_n 1, 1) := by decide +kernel
theorem d_Mo_hold_44 : decode (mcd M_Mo_hold) 44 = .ok (.imul, 1) := by decide +kernel
theorem d_Mo_hold_45 : decode (mcd M_Mo_hold) 45 = .ok (.aload_n 0, 1) := by decide +kernel
theorem d_Mo_hold_46 : decode (mcd M_Mo_hold) 46 = .ok (.getfield 71, 3) := by decide +kernel
theorem d_Mo_hold_49 : decode (mcd M_Mo_hold) 49 = .ok (.iload_n 1, 1) := by decide +kernel
theorem d_Mo_hold_50 : decode (mcd M_Mo_hold) 50 = .ok (.iaload, 1) := by decide +kernel
theorem d_Mo_hold_51 : decode (mcd M_Mo_hold) 51 = .ok (.iadd, 1) := by decide +kernel
theorem d_Mo_hold_52 : decode (mcd M_Mo_hold) 52 = .ok (.iload_n 2, 1) := by decide +kernel
theorem d_Mo_hold_53 : decode (mcd M_Mo_hold) 53 = .ok (.iastore, 1) := by decide +kernel
theorem d_Mo_hold_54 : decode (mcd M_Mo_hold) 54 = .ok (.aload_n 0, 1) := by decide +kernel
theorem d_Mo_hold_55 : decode (mcd M_Mo_hold) 55 = .ok (.getfield 71, 3) := by decide +kernel
theorem d_Mo_hold_58 : decode (mcd M_Mo_hold) 58 = .ok (.iload_n 1, 1) := by decide +kernel
theorem d_Mo_hold_59 : decode (mcd M_Mo_hold) 59 = .ok (.dup2, 1) := by decide +kernel
theorem d_Mo_hold_60 : decode (mcd M_Mo_hold) 60 = .ok (.iaload, 1) := by decide +kernel
theorem d_Mo_hold_61 : decode (mcd M_Mo_hold) 61 = .ok (.iconst 1, 1) := by decide +kernel
theorem d_Mo_hold_62 : decode (mcd M_Mo_hold) 62 = .ok (.iadd, 1) := by decide +kernel
theorem d_Mo_hold_63 : decode (mcd M_Mo_hold) 63 = .ok (.iastore, 1) := by decide +kernel
theorem d_Mo_hold_64 : decode (mcd M_Mo_hold) 64 = .ok (.return_, 1) := by decide +kernel
theorem d_Mo_input_0 : decode (mcd M_Mo_input) 0 = .ok (.aload_n 0, 1) := by decide +kernel
theorem d_Mo_input_1 : decode (mcd M_Mo_input) 1 = .ok (.iconst 0, 1) := by decide +kernel
theorem d_Mo_input_2 : decode (mcd M_Mo_input) 2 = .ok (.putfield 117, 3) := by decide +kernel
theorem d_Mo_input_5 : decode (mcd M_Mo_input) 5 = .ok (.iload_n 1, 1) := by decide +kernel
theorem d_Mo_input_6 : decode (mcd M_Mo_input) 6 = .ok (.ifCond .lt 18, 3) := by decide +kernel
theorem d_Mo_input_9 : decode (mcd M_Mo_input) 9 = .ok (.iload_n 1, 1) := by decide +kernel
theorem d_Mo_input_10 : decode (mcd M_Mo_input) 10 = .ok (.bipush 7, 2) := by decide +kernel
theorem d_Mo_input_12 : decode (mcd M_Mo_input) 12 = .ok (.if_icmp .gt 12, 3) := by decide +kernel
theorem d_Mo_input_15 : decode (mcd M_Mo_input) 15 = .ok (.aload_n 0, 1) := by decide +kernel
theorem d_Mo_input_16 : decode (mcd M_Mo_input) 16 = .ok (.iconst 0, 1) := by decide +kernel
theorem d_Mo_input_17 : decode (mcd M_Mo_input) 17 = .ok (.iconst 0, 1) := by decide +kernel
theorem d_Mo_input_18 : decode (mcd M_Mo_input) 18 = .ok (.invokevirtual 149, 3) := by decide +kernel
theorem d_Mo_input_21 : decode (mcd M_Mo_input) 21 = .ok (.ifCond .ne 5, 3) := by decide +kernel
theorem d_Mo_input_24 : decode (mcd M_Mo_input) 24 = .ok (.iconst 0, 1) := by decide +kernel
theorem d_Mo_input_25 : decode (mcd M_Mo_input) 25 = .ok (.ireturn, 1) := by decide +kernel
theorem d_Mo_input_26 : decode (mcd M_Mo_input) 26 = .ok (.aload_n 0, 1) := by decide +kernel
theorem d_Mo_input_27 : decode (mcd M_Mo_input) 27 = .ok (.getfield 32, 3) := by decide +kernel
theorem d_Mo_input_30 : decode (mcd M_Mo_input) 30 = .ok (.iload_n 1, 1) := by decide +kernel
theorem d_Mo_input_31 : decode (mcd M_Mo_input) 31 = .ok (.aload_n 0, 1) := by decide +kernel
theorem d_Mo_input_32 : decode (mcd M_Mo_input) 32 = .ok (.aload_n 0, 1) := by decide +kernel
theorem d_Mo_input_33 : decode (mcd M_Mo_input) 33 = .ok (.getfield 29, 3) := by decide +kernel
theorem d_Mo_input_36 : decode (mcd M_Mo_input) 36 = .ok (.bipush 24, 2) := by decide +kernel
theorem d_Mo_input_38 : decode (mcd M_Mo_input) 38 = .ok (.iload_n 1, 1) := by decide +kernel
theorem d_Mo_input_39 : decode (mcd M_Mo_input) 39 = .ok (.imul, 1) := by decide +kernel
theorem d_Mo_input_40 : decode (mcd M_Mo_input) 40 = .ok (.invokevirtual 153, 3) := by decide +kernel
theorem d_Mo_input_43 : decode (mcd M_Mo_input) 43 = .ok (.iastore, 1) := by decide +kernel
theorem d_Mo_input_44 : decode (mcd M_Mo_input) 44 = .ok (.iconst 1, 1) := by decide +kernel
theorem d_Mo_input_45 : decode (mcd M_Mo_input) 45 = .ok (.ireturn, 1) := by decide +kernel
theorem d_Mo_isCased_0 : decode (mcd M_Mo_isCased) 0 = .ok (.iload_n 1, 1) := by decide +kernel
theorem d_Mo_isCased_1 : decode (mcd M_Mo_isCased) 1 = .ok (.sipush 400, 3) := by decide +kernel
theorem d_Mo_isCased_4 : decode (mcd M_Mo_isCased) 4 = .ok (.if_icmp .lt 5, 3) := by decide +kernel
theorem d_Mo_isCased_7 : decode (mcd M_Mo_isCased) 7 = .ok (.iconst 0, 1) := by decide +kernel
theorem d_Mo_isCased_8 : decode (mcd M_Mo_isCased) 8 = .ok (.ireturn, 1) := by decide +kernel
theorem d_Mo_isCased_9 : decode (mcd M_Mo_isCased) 9 = .ok (.iload_n 1, 1) := by decide +kernel
theorem d_Mo_isCased_10 : decode (mcd M_Mo_isCased) 10 = .ok (.sipush 300, 3) := by decide +kernel
theorem d_Mo_isCased_13 : decode (mcd M_Mo_isCased) 13 = .ok (.if_icmp .ge 16, 3) := by decide +kernel
theorem d_Mo_isCased_16 : decode (mcd M_Mo_isCased) 16 = .ok (.aload_n 0, 1) := by decide +kernel
theorem d_Mo_isCased_17 : decode (mcd M_Mo_isCased) 17 = .ok (.getfield 16, 3) := by decide +kernel
theorem d_Mo_isCased_20 : decode (mcd M_Mo_isCased) 20 = .ok (.iload_n 1, 1) := by decide +kernel
theorem d_Mo_isCased_21 : decode (mcd M_Mo_isCased) 21 = .ok (.sipush 200, 3) := by decide +kernel
theorem d_Mo_isCased_24 : decode (mcd M_Mo_isCased) 24 = .ok (.isub, 1) := by decide +kernel
theorem d_Mo_isCased_25 : decode (mcd M_Mo_isCased) 25 = .ok (.baload, 1) := by decide +kernel
theorem d_Mo_isCased_26 : decode (mcd M_Mo_isCased) 26 = .ok (.goto 22, 3) := by decide +kernel
theorem d_Mo_isCased_29 : decode (mcd M_Mo_isCased) 29 = .ok (.aload_n 0, 1) := by decide +kernel
theorem d_Mo_isCased_30 : decode (mcd M_Mo_isCased) 30 = .ok (.getfield 35, 3) := by decide +kernel
theorem d_Mo_isCased_33 : decode (mcd M_Mo_isCased) 33 = .ok (.iload_n 1, 1) := by decide +kernel
theorem d_Mo_isCased_34 : decode (mcd M_Mo_isCased) 34 = .ok (.sipush 300, 3) := by decide +kernel
theorem d_Mo_isCased_37 : decode (mcd M_Mo_isCased) 37 = .ok (.isub, 1) := by decide +kernel
theorem d_Mo_isCased_38 : decode (mcd M_Mo_isCased) 38 = .ok (.iaload, 1) := by decide +kernel
theorem d_Mo_isCased_39 : decode (mcd M_Mo_isCased) 39 = .ok (.iconst 4, 1) := by decide +kernel
theorem d_Mo_isCased_40 : decode (mcd M_Mo_isCased) 40 = .ok (.if_icmp .ne 7, 3) := by decide +kernel
theorem d_Mo_isCased_43 : decode (mcd M_Mo_isCased) 43 = .ok (.iconst 1, 1) := by decide +kernel
theorem d_Mo_isCased_44 : decode (mcd M_Mo_isCased) 44 = .ok (.goto 4, 3) := by decide +kernel
theorem d_Mo_isCased_47 : decode (mcd M_Mo_isCased) 47 = .ok (.iconst 0, 1) := by decide +kernel
theorem d_Mo_isCased_48 : decode (mcd M_Mo_isCased) 48 = .ok (.ireturn, 1) := by decide +kernel
theorem d_Mo_isEmbedded_0 : decode (mcd M_Mo_isEmbedded) 0 = .ok (.aload_n 0, 1) := by decide +kernel
theorem d_Mo_isEmbedded_1 : decode (mcd M_Mo_isEmbedded) 1 = .ok (.getfield 44, 3) := by decide +kernel
theorem d_Mo_isEmbedded_4 : decode (mcd M_Mo_isEmbedded) 4 = .ok (.iload_n 1, 1) := by decide +kernel
theorem d_Mo_isEmbedded_5 : decode (mcd M_Mo_isEmbedded) 5 = .ok (.iaload, 1) := by decide +kernel
theorem d_Mo_isEmbedded_6 : decode (mcd M_Mo_isEmbedded) 6 = .ok (.iconst 1, 1) := by decide +kernel
theorem d_Mo_isEmbedded_7 : decode (mcd M_Mo_isEmbedded) 7 = .ok (.isub, 1) := by decide +kernel
theorem d_Mo_isEmbedded_8 : decode (mcd M_Mo_isEmbedded) 8 = .ok (.istore_n 3, 1) := by decide +kernel
theorem d_Mo_isEmbedded_9 : decode (mcd M_Mo_isEmbedded) 9 = .ok (.iload_n 3, 1) := by decide +kernel
theorem d_Mo_isEmbedded_10 : decode (mcd M_Mo_isEmbedded) 10 = .ok (.ifCond .lt 208, 3) := by decide +kernel
theorem d_Mo_isEmbedded_13 : decode (mcd M_Mo_isEmbedded) 13 = .ok (.aload_n 0, 1) := by decide +kernel
theorem d_Mo_isEmbedded_14 : decode (mcd M_Mo_isEmbedded) 14 = .ok (.getfield 44, 3) := by decide +kernel
theorem d_Mo_isEmbedded_17 : decode (mcd M_Mo_isEmbedded) 17 = .ok (.iload_n 2, 1) := by decide +kernel
theorem d_Mo_isEmbedded_18 : decode (mcd M_Mo_isEmbedded) 18 = .ok (.iaload, 1) := by decide +kernel
theorem d_Mo_isEmbedded_19 : decode (mcd M_Mo_isEmbedded) 19 = .ok (.iconst 1, 1) := by decide +kernel
theorem d_Mo_isEmbedded_20 : decode (mcd M_Mo_isEmbedded) 20 = .ok (.isub, 1) := by decide +kernel
theorem d_Mo_isEmbedded_21 : decode (mcd M_Mo_isEmbedded) 21 = .ok (.istore 4, 2) := by decide +kernel
theorem d_Mo_isEmbedded_23 : decode (mcd M_Mo_isEmbedded) 23 = .ok (.iload 4, 2) := by decide +kernel
theorem d_Mo_isEmbedded_25 : decode (mcd M_Mo_isEmbedded) 25 = .ok (.ifCond .lt 187, 3) := by decide +kernel
theorem d_Mo_isEmbedded_28 : decode (mcd M_Mo_isEmbedded) 28 = .ok (.bipush 40, 2) := by decide +kernel
theorem d_Mo_isEmbedded_30 : decode (mcd M_Mo_isEmbedded) 30 = .ok (.iload_n 1, 1) := by decide +kernel
theorem d_Mo_isEmbedded_31 : decode (mcd M_Mo_isEmbedded) 31 = .ok (.imul, 1) := by decide +kernel
theorem d_Mo_isEmbedded_32 : decode (mcd M_Mo_isEmbedded) 32 = .ok (.iload_n 3, 1) := by decide +kernel
theorem d_Mo_isEmbedded_33 : decode (mcd M_Mo_isEmbedded) 33 = .ok (.iadd, 1) := by decide +kernel
theorem d_Mo_isEmbedded_34 : decode (mcd M_Mo_isEmbedded) 34 = .ok (.istore 5, 2) := by decide +kernel
theorem d_Mo_isEmbedded_36 : decode (mcd M_Mo_isEmbedded) 36 = .ok (.bipush 40, 2) := by decide +kernel
theorem d_Mo_isEmbedded_38 : decode (mcd M_Mo_isEmbedded) 38 = .ok (.iload_n 2, 1) := by decide +kernel
theorem d_Mo_isEmbedded_39 : decode (mcd M_Mo_isEmbedded) 39 = .ok (.imul, 1) := by decide +kernel
theorem d_Mo_isEmbedded_40 : decode (mcd M_Mo_isEmbedded) 40 = .ok (.iload 4, 2) := by decide +kernel
theorem d_Mo_isEmbedded_42 : decode (mcd M_Mo_isEmbedded) 42 = .ok (.iadd, 1) := by decide +kernel
theorem d_Mo_isEmbedded_43 : decode (mcd M_Mo_isEmbedded) 43 = .ok (.istore 6, 2) := by decide +kernel
theorem d_Mo_isEmbedded_45 : decode (mcd M_Mo_isEmbedded) 45 = .ok (.aload_n 0, 1) := by decide +kernel
theorem d_Mo_isEmbedded_46 : decode (mcd M_Mo_isEmbedded) 46 = .ok (.getfield 41, 3) := by decide +kernel
theorem d_Mo_isEmbedded_49 : decode (mcd M_Mo_isEmbedded) 49 = .ok (.iload 5, 2) := by decide +kernel
theorem d_Mo_isEmbedded_51 : decode (mcd M_Mo_isEmbedded) 51 = .ok (.iaload, 1) := by decide +kernel
theorem d_Mo_isEmbedded_52 : decode (mcd M_Mo_isEmbedded) 52 = .ok (.bipush 100, 2) := by decide +kernel
theorem d_Mo_isEmbedded_54 : decode (mcd M_Mo_isEmbedded) 54 = .ok (.if_icmp .ge 19, 3) := by decide +kernel
theorem d_Mo_isEmbedded_57 : decode (mcd M_Mo_isEmbedded) 57 = .ok (.aload_n 0, 1) := by decide +kernel
theorem d_Mo_isEmbedded_58 : decode (mcd M_Mo_isEmbedded) 58 = .ok (.getfield 41, 3) := by decide +kernel
theorem d_Mo_isEmbedded_61 : decode (mcd M_Mo_isEmbedded) 61 = .ok (.iload 6, 2) := by decide +kernel
theorem d_Mo_isEmbedded_63 : decode (mcd M_Mo_isEmbedded) 63 = .ok (.iaload, 1) := by decide +kernel
theorem d_Mo_isEmbedded_64 : decode (mcd M_Mo_isEmbedded) 64 = .ok (.bipush 100, 2) := by decide +kernel
theorem d_Mo_isEmbedded_66 : decode (mcd M_Mo_isEmbedded) 66 = .ok (.if_icmp .ge 7, 3) := by decide +kernel
theorem d_Mo_isEmbedded_69 : decode (mcd M_Mo_isEmbedded) 69 = .ok (.iconst 1, 1) := by decide +kernel
theorem d_Mo_isEmbedded_70 : decode (mcd M_Mo_isEmbedded) 70 = .ok (.goto 4, 3) := by decide +kernel
theorem d_Mo_isEmbedded_73 : decode (mcd M_Mo_isEmbedded) 73 = .ok (.iconst 0, 1) := by decide +kernel
theorem d_Mo_isEmbedded_74 : decode (mcd M_Mo_isEmbedded) 74 = .ok (.istore 7, 2) := by decide +kernel
theorem d_Mo_isEmbedded_76 : decode (mcd M_Mo_isEmbedded) 76 = .ok (.iload 7, 2) := by decide +kernel
theorem d_Mo_isEmbedded_78 : decode (mcd M_Mo_isEmbedded) 78 = .ok (.ifCond .ne 47, 3) := by decide +kernel
theorem d_Mo_isEmbedded_81 : decode (mcd M_Mo_isEmbedded) 81 = .ok (.aload_n 0, 1) := by decide +kernel
theorem d_Mo_isEmbedded_82 : decode (mcd M_Mo_isEmbedded) 82 = .ok (.getfield 41, 3) := by decide +kernel
theorem d_Mo_isEmbedded_85 : decode (mcd M_Mo_isEmbedded) 85 = .ok (.iload 5, 2) := by decide +kernel
theorem d_Mo_isEmbedded_87 : decode (mcd M_Mo_isEmbedded) 87 = .ok (.iaload, 1) := by decide +kernel
theorem d_Mo_isEmbedded_88 : decode (mcd M_Mo_isEmbedded) 88 = .ok (.aload_n 0, 1) := by decide +kernel
theorem d_Mo_isEmbedded_89 : decode (mcd M_Mo_isEmbedded) 89 = .ok (.getfield 41, 3) := by decide +kernel
theorem d_Mo_isEmbedded_92 : decode (mcd M_Mo_isEmbedded) 92 = .ok (.iload 6, 2) := by decide +kernel
theorem d_Mo_isEmbedded_94 : decode (mcd M_Mo_isEmbedded) 94 = .ok (.iaload, 1) := by decide +kernel
theorem d_Mo_isEmbedded_95 : decode (mcd M_Mo_isEmbedded) 95 = .ok (.if_icmp .ne 30, 3) := by decide +kernel
theorem d_Mo_isEmbedded_98 : decode (mcd M_Mo_isEmbedded) 98 = .ok (.aload_n 0, 1) := by decide +kernel
theorem d_Mo_isEmbedded_99 : decode (mcd M_Mo_isEmbedded) 99 = .ok (.iload_n 1, 1) := by decide +kernel
theorem d_Mo_isEmbedded_100 : decode (mcd M_Mo_isEmbedded) 100 = .ok (.iload 5, 2) := by decide +kernel
theorem d_Mo_isEmbedded_102 : decode (mcd M_Mo_isEmbedded) 102 = .ok (.iconst 1, 1) := by decide +kernel
theorem d_Mo_isEmbedded_103 : decode (mcd M_Mo_isEmbedded) 103 = .ok (.iadd, 1) := by decide +kernel
theorem d_Mo_isEmbedded_104 : decode (mcd M_Mo_isEmbedded) 104 = .ok (.iload_n 2, 1) := by decide +kernel
theorem d_Mo_isEmbedded_105 : decode (mcd M_Mo_isEmbedded) 105 = .ok (.iload 6, 2) := by decide +kernel
theorem d_Mo_isEmbedded_107 : decode (mcd M_Mo_isEmbedded) 107 = .ok (.iconst 1, 1) := by decide +kernel
theorem d_Mo_isEmbedded_108 : decode (mcd M_Mo_isEmbedded) 108 = .ok (.iadd, 1) := by decide +kernel
theorem d_Mo_isEmbedded_109 : decode (mcd M_Mo_isEmbedded) 109 = .ok (.aload_n 0, 1) := by decide +kernel
theorem d_Mo_isEmbedded_110 : decode (mcd M_Mo_isEmbedded) 110 = .ok (.aload_n 0, 1) := by decide +kernel
theorem d_Mo_isEmbedded_111 : decode (mcd M_Mo_isEmbedded) 111 = .ok (.getfield 41, 3) := by decide +kernel
theorem d_Mo_isEmbedded_114 : decode (mcd M_Mo_isEmbedded) 114 = .ok (.iload 5, 2) := by decide +kernel
theorem d_Mo_isEmbedded_116 : decode (mcd M_Mo_isEmbedded) 116 = .ok (.iaload, 1) := by decide +kernel
theorem d_Mo_isEmbedded_117 : decode (mcd M_Mo_isEmbedded) 117 = .ok (.invokevirtual 124, 3) := by decide +kernel
theorem d_Mo_isEmbedded_120 : decode (mcd M_Mo_isEmbedded) 120 = .ok (.invokevirtual 190, 3) := by decide +kernel
theorem d_Mo_isEmbedded_123 : decode (mcd M_Mo_isEmbedded) 123 = .ok (.istore 7, 2) := by decide +kernel
theorem d_Mo_isEmbedded_125 : decode (mcd M_Mo_isEmbedded) 125 = .ok (.iload 6, 2) := by decide +kernel
theorem d_Mo_isEmbedded_127 : decode (mcd M_Mo_isEmbedded) 127 = .ok (.iconst 1, 1) := by decide +kernel
theorem d_Mo_isEmbedded_128 : decode (mcd M_Mo_isEmbedded) 128 = .ok (.iadd, 1) := by decide +kernel
theorem d_Mo_isEmbedded_129 : decode (mcd M_Mo_isEmbedded) 129 = .ok (.istore 8, 2) := by decide +kernel
theorem d_Mo_isEmbedded_131 : decode (mcd M_Mo_isEmbedded) 131 = .ok (.iconst 0, 1) := by decide +kernel
theorem d_Mo_isEmbedded_132 : decode (mcd M_Mo_isEmbedded) 132 = .ok (.istore 9, 2) := by decide +kernel
theorem d_Mo_isEmbedded_134 : decode (mcd M_Mo_isEmbedded) 134 = .ok (.iload 9, 2) := by decide +kernel
theorem d_Mo_isEmbedded_136 : decode (mcd M_Mo_isEmbedded) 136 = .ok (.aload_n 0, 1) := by decide +kernel
theorem d_Mo_isEmbedded_137 : decode (mcd M_Mo_isEmbedded) 137 = .ok (.aload_n 0, 1) := by decide +kernel
theorem d_Mo_isEmbedded_138 : decode (mcd M_Mo_isEmbedded) 138 = .ok (.getfield 41, 3) := by decide +kernel
theorem d_Mo_isEmbedded_141 : decode (mcd M_Mo_isEmbedded) 141 = .ok (.iload 6, 2) := by decide +kernel
theorem d_Mo_isEmbedded_143 : decode (mcd M_Mo_isEmbedded) 143 = .ok (.iaload, 1) := by decide +kernel
theorem d_Mo_isEmbedded_144 : decode (mcd M_Mo_isEmbedded) 144 = .ok (.invokevirtual 124, 3) := by decide +kernel
theorem d_Mo_isEmbedded_147 : decode (mcd M_Mo_isEmbedded) 147 = .ok (.if_icmp .ge 45, 3) := by decide +kernel
theorem d_Mo_isEmbedded_150 : decode (mcd M_Mo_isEmbedded) 150 = .ok (.iload 7, 2) := by decide +kernel
theorem d_Mo_isEmbedded_152 : decode (mcd M_Mo_isEmbedded) 152 = .ok (.ifCond .ne 40, 3) := by decide +kernel
theorem d_Mo_isEmbedded_155 : decode (mcd M_Mo_isEmbedded) 155 = .ok (.aload_n 0, 1) := by decide +kernel
theorem d_Mo_isEmbedded_156 : decode (mcd M_Mo_isEmbedded) 156 = .ok (.getfield 98, 3) := by decide +kernel
theorem d_Mo_isEmbedded_159 : decode (mcd M_Mo_isEmbedded) 159 = .ok (.bipush 40, 2) := by decide +kernel
theorem d_Mo_isEmbedded_161 : decode (mcd M_Mo_isEmbedded) 161 = .ok (.iload_n 3, 1) := by decide +kernel
theorem d_Mo_isEmbedded_162 : decode (mcd M_Mo_isEmbedded) 162 = .ok (.imul, 1) := by decide +kernel
theorem d_Mo_isEmbedded_163 : decode (mcd M_Mo_isEmbedded) 163 = .ok (.iload 8, 2) := by decide +kernel
theorem d_Mo_isEmbedded_165 : decode (mcd M_Mo_isEmbedded) 165 = .ok (.iadd, 1) := by decide +kernel
theorem d_Mo_isEmbedded_166 : decode (mcd M_Mo_isEmbedded) 166 = .ok (.bipush 40, 2) := by decide +kernel
theorem d_Mo_isEmbedded_168 : decode (mcd M_Mo_isEmbedded) 168 = .ok (.iload_n 2, 1) := by decide +kernel
theorem d_Mo_isEmbedded_169 : decode (mcd M_Mo_isEmbedded) 169 = .ok (.imul, 1) := by decide +kernel
theorem d_Mo_isEmbedded_170 : decode (mcd M_Mo_isEmbedded) 170 = .ok (.isub, 1) := by decide +kernel
theorem d_Mo_isEmbedded_171 : decode (mcd M_Mo_isEmbedded) 171 = .ok (.baload, 1) := by decide +kernel
theorem d_Mo_isEmbedded_172 : decode (mcd M_Mo_isEmbedded) 172 = .ok (.istore 7, 2) := by decide +kernel
theorem d_Mo_isEmbedded_174 : decode (mcd M_Mo_isEmbedded) 174 = .ok (.aload_n 0, 1) := by decide +kernel
theorem d_Mo_isEmbedded_175 : decode (mcd M_Mo_isEmbedded) 175 = .ok (.aload_n 0, 1) := by decide +kernel
theorem d_Mo_isEmbedded_176 : decode (mcd M_Mo_isEmbedded) 176 = .ok (.getfield 41, 3) := by decide +kernel
theorem d_Mo_isEmbedded_179 : decode (mcd M_Mo_isEmbedded) 179 = .ok (.iload 8, 2) := by decide +kernel
theorem d_Mo_isEmbedded_181 : decode (mcd M_Mo_isEmbedded) 181 = .ok (.invokevirtual 164, 3) := by decide +kernel
theorem d_Mo_isEmbedded_184 : decode (mcd M_Mo_isEmbedded) 184 = .ok (.istore 8, 2) := by decide +kernel
theorem d_Mo_isEmbedded_186 : decode (mcd M_Mo_isEmbedded) 186 = .ok (.iinc 9 1, 3) := by decide +kernel
theorem d_Mo_isEmbedded_189 : decode (mcd M_Mo_isEmbedded) 189 = .ok (.goto (-55), 3) := by decide +kernel
theorem d_Mo_isEmbedded_192 : decode (mcd M_Mo_isEmbedded) 192 = .ok (.aload_n 0, 1) := by decide +kernel
theorem d_Mo_isEmbedded_193 : decode (mcd M_Mo_isEmbedded) 193 = .ok (.getfield 98, 3) := by decide +kernel
theorem d_Mo_isEmbedded_196 : decode (mcd M_Mo_isEmbedded) 196 = .ok (.bipush 40, 2) := by decide +kernel
theorem d_Mo_isEmbedded_198 : decode (mcd M_Mo_isEmbedded) 198 = .ok (.iload_n 3, 1) := by decide +kernel
theorem d_Mo_isEmbedded_199 : decode (mcd M_Mo_isEmbedded) 199 = .ok (.imul, 1) := by decide +kernel
theorem d_Mo_isEmbedded_200 : decode (mcd M_Mo_isEmbedded) 200 = .ok (.iload 4, 2) := by decide +kernel
theorem d_Mo_isEmbedded_202 : decode (mcd M_Mo_isEmbedded) 202 = .ok (.iadd, 1) := by decide +kernel
theorem d_Mo_isEmbedded_203 : decode (mcd M_Mo_isEmbedded) 203 = .ok (.iload 7, 2) := by decide +kernel
theorem d_Mo_isEmbedded_205 : decode (mcd M_Mo_isEmbedded) 205 = .ok (.bastore, 1) := by decide +kernel
theorem d_Mo_isEmbedded_206 : decode (mcd M_Mo_isEmbedded) 206 = .ok (.iinc 4 (-1), 3) := by decide +kernel
theorem d_Mo_isEmbedded_209 : decode (mcd M_Mo_isEmbedded) 209 = .ok (.goto (-186), 3) := by decide +kernel
theorem d_Mo_isEmbedded_212 : decode (mcd M_Mo_isEmbedded) 212 = .ok (.iinc 3 (-1), 3) := by decide +kernel
theorem d_Mo_isEmbedded_215 : decode (mcd M_Mo_isEmbedded) 215 = .ok (.goto (-206), 3) := by decide +kernel
theorem d_Mo_isEmbedded_218 : decode (mcd M_Mo_isEmbedded) 218 = .ok (.aload_n 0, 1) := by decide +kernel
theorem d_Mo_isEmbedded_219 : decode (mcd M_Mo_isEmbedded) 219 = .ok (.getfield 98, 3) := by decide +kernel
theorem d_Mo_isEmbedded_222 : decode (mcd M_Mo_isEmbedded) 222 = .ok (.iconst 0, 1) := by decide +kernel
theorem d_Mo_isEmbedded_223 : decode (mcd M_Mo_isEmbedded) 223 = .ok (.baload, 1) := by decide +kernel
theorem d_Mo_isEmbedded_224 : decode (mcd M_Mo_isEmbedded) 224 = .ok (.ireturn, 1) := by decide +kernel
theorem d_Mo_isNode_0 : decode (mcd M_Mo_isNode) 0 = .ok (.aload_n 0, 1) := by decide +kernel
theorem d_Mo_isNode_1 : decode (mcd M_Mo_isNode) 1 = .ok (.getfield 138, 3) := by decide +kernel
theorem d_Mo_isNode_4 : decode (mcd M_Mo_isNode) 4 = .ok (.ifCond .eq 19, 3) := by decide +kernel
theorem d_Mo_isNode_7 : decode (mcd M_Mo_isNode) 7 = .ok (.iload_n 1, 1) := by decide +kernel
theorem d_Mo_isNode_8 : decode (mcd M_Mo_isNode) 8 = .ok (.ifCond .lt 15, 3) := by decide +kernel
theorem d_Mo_isNode_11 : decode (mcd M_Mo_isNode) 11 = .ok (.iload_n 1, 1) := by decide +kernel
theorem d_Mo_isNode_12 : decode (mcd M_Mo_isNode) 12 = .ok (.aload_n 0, 1) := by decide +kernel
theorem d_Mo_isNode_13 : decode (mcd M_Mo_isNode) 13 = .ok (.getfield 180, 3) := by decide +kernel
theorem d_Mo_isNode_16 : decode (mcd M_Mo_isNode) 16 = .ok (.if_icmp .ge 7, 3) := by decide +kernel
theorem d_Mo_isNode_19 : decode (mcd M_Mo_isNode) 19 = .ok (.iconst 1, 1) := by decide +kernel
theorem d_Mo_isNode_20 : decode (mcd M_Mo_isNode) 20 = .ok (.goto 4, 3) := by decide +kernel
theorem d_Mo_isNode_23 : decode (mcd M_Mo_isNode) 23 = .ok (.iconst 0, 1) := by decide +kernel
theorem d_Mo_isNode_24 : decode (mcd M_Mo_isNode) 24 = .ok (.ireturn, 1) := by decide +kernel
theorem d_Mo_isRenaming_0 : decode (mcd M_Mo_isRenaming) 0 = .ok (.aload_n 0, 1) := by decide +kernel
theorem d_Mo_isRenaming_1 : decode (mcd M_Mo_isRenaming) 1 = .ok (.aload_n 0, 1) := by decide +kernel
theorem d_Mo_isRenaming_2 : decode (mcd M_Mo_isRenaming) 2 = .ok (.getfield 41, 3) := by decide +kernel
theorem d_Mo_isRenaming_5 : decode (mcd M_Mo_isRenaming) 5 = .ok (.bipush 40, 2) := by decide +kernel
theorem d_Mo_isRenaming_7 : decode (mcd M_Mo_isRenaming) 7 = .ok (.iload_n 1, 1) := by decide +kernel
theorem d_Mo_isRenaming_8 : decode (mcd M_Mo_isRenaming) 8 = .ok (.imul, 1) := by decide +kernel
theorem d_Mo_isRenaming_9 : decode (mcd M_Mo_isRenaming) 9 = .ok (.aload_n 0, 1) := by decide +kernel
theorem d_Mo_isRenaming_10 : decode (mcd M_Mo_isRenaming) 10 = .ok (.getfield 44, 3) := by decide +kernel
theorem d_Mo_isRenaming_13 : decode (mcd M_Mo_isRenaming) 13 = .ok (.iload_n 1, 1) := by decide +kernel
theorem d_Mo_isRenaming_14 : decode (mcd M_Mo_isRenaming) 14 = .ok (.iaload, 1) := by decide +kernel
theorem d_Mo_isRenaming_15 : decode (mcd M_Mo_isRenaming) 15 = .ok (.aload_n 0, 1) := by decide +kernel
theorem d_Mo_isRenaming_16 : decode (mcd M_Mo_isRenaming) 16 = .ok (.getfield 41, 3) := by decide +kernel
theorem d_Mo_isRenaming_19 : decode (mcd M_Mo_isRenaming) 19 = .ok (.bipush 40, 2) := by decide +kernel
theorem d_Mo_isRenaming_21 : decode (mcd M_Mo_isRenaming) 21 = .ok (.iload_n 2, 1) := by decide +kernel
theorem d_Mo_isRenaming_22 : decode (mcd M_Mo_isRenaming) 22 = .ok (.imul, 1) := by decide +kernel
theorem d_Mo_isRenaming_23 : decode (mcd M_Mo_isRenaming) 23 = .ok (.aload_n 0, 1) := by decide +kernel
theorem d_Mo_isRenaming_24 : decode (mcd M_Mo_isRenaming) 24 = .ok (.getfield 44, 3) := by decide +kernel
theorem d_Mo_isRenaming_27 : decode (mcd M_Mo_isRenaming) 27 = .ok (.iload_n 2, 1) := by decide +kernel
theorem d_Mo_isRenaming_28 : decode (mcd M_Mo_isRenaming) 28 = .ok (.iaload, 1) := by decide +kernel
theorem d_Mo_isRenaming_29 : decode (mcd M_Mo_isRenaming) 29 = .ok (.invokevirtual 186, 3) := by decide +kernel
theorem d_Mo_isRenaming_32 : decode (mcd M_Mo_isRenaming) 32 = .ok (.ireturn, 1) := by decide +kernel
theorem d_Mo_isTerm_0 : decode (mcd M_Mo_isTerm) 0 = .ok (.iconst 1, 1) := by decide +kernel
theorem d_Mo_isTerm_1 : decode (mcd M_Mo_isTerm) 1 = .ok (.istore_n 3, 1) := by decide +kernel
theorem d_Mo_isTerm_2 : decode (mcd M_Mo_isTerm) 2 = .ok (.aload_n 0, 1) := by decide +kernel
theorem d_Mo_isTerm_3 : decode (mcd M_Mo_isTerm) 3 = .ok (.getfield 127, 3) := by decide +kernel
theorem d_Mo_isTerm_6 : decode (mcd M_Mo_isTerm) 6 = .ok (.ifCond .le 7, 3) := by decide +kernel
theorem d_Mo_isTerm_9 : decode (mcd M_Mo_isTerm) 9 = .ok (.iconst 1, 1) := by decide +kernel
theorem d_Mo_isTerm_10 : decode (mcd M_Mo_isTerm) 10 = .ok (.goto 4, 3) := by decide +kernel
theorem d_Mo_isTerm_13 : decode (mcd M_Mo_isTerm) 13 = .ok (.iconst 0, 1) := by decide +kernel
theorem d_Mo_isTerm_14 : decode (mcd M_Mo_isTerm) 14 = .ok (.istore 4, 2) := by decide +kernel
theorem d_Mo_isTerm_16 : decode (mcd M_Mo_isTerm) 16 = .ok (.iconst 0, 1) := by decide +kernel
theorem d_Mo_isTerm_17 : decode (mcd M_Mo_isTerm) 17 = .ok (.istore 5, 2) := by decide +kernel
theorem d_Mo_isTerm_19 : decode (mcd M_Mo_isTerm) 19 = .ok (.iload 5, 2) := by decide +kernel
theorem d_Mo_isTerm_21 : decode (mcd M_Mo_isTerm) 21 = .ok (.aload_n 0, 1) := by decide +kernel
theorem d_Mo_isTerm_22 : decode (mcd M_Mo_isTerm) 22 = .ok (.getfield 127, 3) := by decide +kernel
theorem d_Mo_isTerm_25 : decode (mcd M_Mo_isTerm) 25 = .ok (.if_icmp .ge 113, 3) := by decide +kernel
theorem d_Mo_isTerm_28 : decode (mcd M_Mo_isTerm) 28 = .ok (.iload 4, 2) := by decide +kernel
theorem d_Mo_isTerm_30 : decode (mcd M_Mo_isTerm) 30 = .ok (.ifCond .eq 108, 3) := by decide +kernel
theorem d_Mo_isTerm_33 : decode (mcd M_Mo_isTerm) 33 = .ok (.aload_n 0, 1) := by decide +kernel
theorem d_Mo_isTerm_34 : decode (mcd M_Mo_isTerm) 34 = .ok (.getfield 7, 3) := by decide +kernel
theorem d_Mo_isTerm_37 : decode (mcd M_Mo_isTerm) 37 = .ok (.iload 5, 2) := by decide +kernel
theorem d_Mo_isTerm_39 : decode (mcd M_Mo_isTerm) 39 = .ok (.iaload, 1) := by decide +kernel
theorem d_Mo_isTerm_40 : decode (mcd M_Mo_isTerm) 40 = .ok (.istore 6, 2) := by decide +kernel
theorem d_Mo_isTerm_42 : decode (mcd M_Mo_isTerm) 42 = .ok (.iload 6, 2) := by decide +kernel
theorem d_Mo_isTerm_44 : decode (mcd M_Mo_isTerm) 44 = .ok (.bipush 100, 2) := by decide +kernel
theorem d_Mo_isTerm_46 : decode (mcd M_Mo_isTerm) 46 = .ok (.if_icmp .ge 17, 3) := by decide +kernel
theorem d_Mo_isTerm_49 : decode (mcd M_Mo_isTerm) 49 = .ok (.iload 6, 2) := by decide +kernel
theorem d_Mo_isTerm_51 : decode (mcd M_Mo_isTerm) 51 = .ok (.iload_n 1, 1) := by decide +kernel
theorem d_Mo_isTerm_52 : decode (mcd M_Mo_isTerm) 52 = .ok (.if_icmp .ge 7, 3) := by decide +kernel
theorem d_Mo_isTerm_55 : decode (mcd M_Mo_isTerm) 55 = .ok (.iconst 1, 1) := by decide +kernel
theorem d_Mo_isTerm_56 : decode (mcd M_Mo_isTerm) 56 = .ok (.goto 38, 3) := by decide +kernel
theorem d_Mo_isTerm_59 : decode (mcd M_Mo_isTerm) 59 = .ok (.iconst 0, 1) := by decide +kernel
theorem d_Mo_isTerm_60 : decode (mcd M_Mo_isTerm) 60 = .ok (.goto 34, 3) := by decide +kernel
theorem d_Mo_isTerm_63 : decode (mcd M_Mo_isTerm) 63 = .ok (.iload 6, 2) := by decide +kernel
theorem d_Mo_isTerm_65 : decode (mcd M_Mo_isTerm) 65 = .ok (.sipush 200, 3) := by decide +kernel
theorem d_Mo_isTerm_68 : decode (mcd M_Mo_isTerm) 68 = .ok (.if_icmp .lt 21, 3) := by decide +kernel
theorem d_Mo_isTerm_71 : decode (mcd M_Mo_isTerm) 71 = .ok (.iload_n 2, 1) := by decide +kernel
theorem d_Mo_isTerm_72 : decode (mcd M_Mo_isTerm) 72 = .ok (.ifCond .eq 21, 3) := by decide +kernel
theorem d_Mo_isTerm_75 : decode (mcd M_Mo_isTerm) 75 = .ok (.aload_n 0, 1) := by decide +kernel
theorem d_Mo_isTerm_76 : decode (mcd M_Mo_isTerm) 76 = .ok (.getfield 13, 3) := by decide +kernel
theorem d_Mo_isTerm_79 : decode (mcd M_Mo_isTerm) 79 = .ok (.iload 6, 2) := by decide +kernel
theorem d_Mo_isTerm_81 : decode (mcd M_Mo_isTerm) 81 = .ok (.sipush 200, 3) := by decide +kernel
theorem d_Mo_isTerm_84 : decode (mcd M_Mo_isTerm) 84 = .ok (.isub, 1) := by decide +kernel
theorem d_Mo_isTerm_85 : decode (mcd M_Mo_isTerm) 85 = .ok (.iaload, 1) := by decide +kernel
theorem d_Mo_isTerm_86 : decode (mcd M_Mo_isTerm) 86 = .ok (.ifCond .le 7, 3) := by decide +kernel
theorem d_Mo_isTerm_89 : decode (mcd M_Mo_isTerm) 89 = .ok (.iconst 1, 1) := by decide +kernel
theorem d_Mo_isTerm_90 : decode (mcd M_Mo_isTerm) 90 = .ok (.goto 4, 3) := by decide +kernel
theorem d_Mo_isTerm_93 : decode (mcd M_Mo_isTerm) 93 = .ok (.iconst 0, 1) := by decide +kernel
theorem d_Mo_isTerm_94 : decode (mcd M_Mo_isTerm) 94 = .ok (.istore 7, 2) := by decide +kernel
theorem d_Mo_isTerm_96 : decode (mcd M_Mo_isTerm) 96 = .ok (.iload 7, 2) := by decide +kernel
theorem d_Mo_isTerm_98 : decode (mcd M_Mo_isTerm) 98 = .ok (.ifCond .eq 11, 3) := by decide +kernel
theorem d_Mo_isTerm_101 : decode (mcd M_Mo_isTerm) 101 = .ok (.iload_n 3, 1) := by decide +kernel
theorem d_Mo_isTerm_102 : decode (mcd M_Mo_isTerm) 102 = .ok (.ifCond .le 7, 3) := by decide +kernel
theorem d_Mo_isTerm_105 : decode (mcd M_Mo_isTerm) 105 = .ok (.iconst 1, 1) := by decide +kernel
theorem d_Mo_isTerm_106 : decode (mcd M_Mo_isTerm) 106 = .ok (.goto 4, 3) := by decide +kernel
theorem d_Mo_isTerm_109 : decode (mcd M_Mo_isTerm) 109 = .ok (.iconst 0, 1) := by decide +kernel
theorem d_Mo_isTerm_110 : decode (mcd M_Mo_isTerm) 110 = .ok (.istore 4, 2) := by decide +kernel
theorem d_Mo_isTerm_112 : decode (mcd M_Mo_isTerm) 112 = .ok (.iload_n 3, 1) := by decide +kernel
theorem d_Mo_isTerm_113 : decode (mcd M_Mo_isTerm) 113 = .ok (.iconst 1, 1) := by decide +kernel
theorem d_Mo_isTerm_114 : decode (mcd M_Mo_isTerm) 114 = .ok (.isub, 1) := by decide +kernel
theorem d_Mo_isTerm_115 : decode (mcd M_Mo_isTerm) 115 = .ok (.iload 7, 2) := by decide +kernel
theorem d_Mo_isTerm_117 : decode (mcd M_Mo_isTerm) 117 = .ok (.ifCond .eq 12, 3) := by decide +kernel
theorem d_Mo_isTerm_120 : decode (mcd M_Mo_isTerm) 120 = .ok (.aload_n 0, 1) := by decide +kernel
theorem d_Mo_isTerm_121 : decode (mcd M_Mo_isTerm) 121 = .ok (.iload 6, 2) := by decide +kernel
theorem d_Mo_isTerm_123 : decode (mcd M_Mo_isTerm) 123 = .ok (.invokevirtual 124, 3) := by decide +kernel
theorem d_Mo_isTerm_126 : decode (mcd M_Mo_isTerm) 126 = .ok (.goto 4, 3) := by decide +kernel
theorem d_Mo_isTerm_129 : decode (mcd M_Mo_isTerm) 129 = .ok (.iconst 0, 1) := by decide +kernel
theorem d_Mo_isTerm_130 : decode (mcd M_Mo_isTerm) 130 = .ok (.iadd, 1) := by decide +kernel
theorem d_Mo_isTerm_131 : decode (mcd M_Mo_isTerm) 131 = .ok (.istore_n 3, 1) := by decide +kernel
theorem d_Mo_isTerm_132 : decode (mcd M_Mo_isTerm) 132 = .ok (.iinc 5 1, 3) := by decide +kernel
theorem d_Mo_isTerm_135 : decode (mcd M_Mo_isTerm) 135 = .ok (.goto (-116), 3) := by decide +kernel
theorem d_Mo_isTerm_138 : decode (mcd M_Mo_isTerm) 138 = .ok (.iload 4, 2) := by decide +kernel
theorem d_Mo_isTerm_140 : decode (mcd M_Mo_isTerm) 140 = .ok (.ifCond .eq 11, 3) := by decide +kernel
theorem d_Mo_isTerm_143 : decode (mcd M_Mo_isTerm) 143 = .ok (.iload_n 3, 1) := by decide +kernel
theorem d_Mo_isTerm_144 : decode (mcd M_Mo_isTerm) 144 = .ok (.ifCond .ne 7, 3) := by decide +kernel
theorem d_Mo_isTerm_147 : decode (mcd M_Mo_isTerm) 147 = .ok (.iconst 1, 1) := by decide +kernel
theorem d_Mo_isTerm_148 : decode (mcd M_Mo_isTerm) 148 = .ok (.goto 4, 3) := by decide +kernel
theorem d_Mo_isTerm_151 : decode (mcd M_Mo_isTerm) 151 = .ok (.iconst 0, 1) := by decide +kernel
theorem d_Mo_isTerm_152 : decode (mcd M_Mo_isTerm) 152 = .ok (.ireturn, 1) := by decide +kernel
theorem d_Mo_let_0 : decode (mcd M_Mo_let) 0 = .ok (.aload_n 0, 1) := by decide +kernel
theorem d_Mo_let_1 : decode (mcd M_Mo_let) 1 = .ok (.getfield 47, 3) := by decide +kernel
theorem d_Mo_let_4 : decode (mcd M_Mo_let) 4 = .ok (.iload_n 1, 1) := by decide +kernel
theorem d_Mo_let_5 : decode (mcd M_Mo_let) 5 = .ok (.aload_n 0, 1) := by decide +kernel
theorem d_Mo_let_6 : decode (mcd M_Mo_let) 6 = .ok (.getfield 216, 3) := by decide +kernel
theorem d_Mo_let_9 : decode (mcd M_Mo_let) 9 = .ok (.iastore, 1) := by decide +kernel
theorem d_Mo_let_10 : decode (mcd M_Mo_let) 10 = .ok (.aload_n 0, 1) := by decide +kernel
theorem d_Mo_let_11 : decode (mcd M_Mo_let) 11 = .ok (.getfield 56, 3) := by decide +kernel
theorem d_Mo_let_14 : decode (mcd M_Mo_let) 14 = .ok (.iload_n 1, 1) := by decide +kernel
theorem d_Mo_let_15 : decode (mcd M_Mo_let) 15 = .ok (.iload_n 2, 1) := by decide +kernel
theorem d_Mo_let_16 : decode (mcd M_Mo_let) 16 = .ok (.iastore, 1) := by decide +kernel
theorem d_Mo_let_17 : decode (mcd M_Mo_let) 17 = .ok (.aload_n 0, 1) := by decide +kernel
theorem d_Mo_let_18 : decode (mcd M_Mo_let) 18 = .ok (.getfield 53, 3) := by decide +kernel
theorem d_Mo_let_21 : decode (mcd M_Mo_let) 21 = .ok (.iload_n 1, 1) := by decide +kernel
theorem d_Mo_let_22 : decode (mcd M_Mo_let) 22 = .ok (.iconst 1, 1) := by decide +kernel
theorem d_Mo_let_23 : decode (mcd M_Mo_let) 23 = .ok (.aload_n 0, 1) := by decide +kernel
theorem d_Mo_let_24 : decode (mcd M_Mo_let) 24 = .ok (.getfield 216, 3) := by decide +kernel
theorem d_Mo_let_27 : decode (mcd M_Mo_let) 27 = .ok (.iadd, 1) := by decide +kernel
theorem d_Mo_let_28 : decode (mcd M_Mo_let) 28 = .ok (.iastore, 1) := by decide +kernel
theorem d_Mo_let_29 : decode (mcd M_Mo_let) 29 = .ok (.aload_n 0, 1) := by decide +kernel
theorem d_Mo_let_30 : decode (mcd M_Mo_let) 30 = .ok (.iload_n 1, 1) := by decide +kernel
theorem d_Mo_let_31 : decode (mcd M_Mo_let) 31 = .ok (.aload_n 0, 1) := by decide +kernel
theorem d_Mo_let_32 : decode (mcd M_Mo_let) 32 = .ok (.getfield 101, 3) := by decide +kernel
theorem d_Mo_let_35 : decode (mcd M_Mo_let) 35 = .ok (.iconst 0, 1) := by decide +kernel
theorem d_Mo_let_36 : decode (mcd M_Mo_let) 36 = .ok (.aload_n 0, 1) := by decide +kernel
theorem d_Mo_let_37 : decode (mcd M_Mo_let) 37 = .ok (.getfield 223, 3) := by decide +kernel
theorem d_Mo_let_40 : decode (mcd M_Mo_let) 40 = .ok (.invokevirtual 205, 3) := by decide +kernel
theorem d_Mo_let_43 : decode (mcd M_Mo_let) 43 = .ok (.iconst 0, 1) := by decide +kernel
theorem d_Mo_let_44 : decode (mcd M_Mo_let) 44 = .ok (.istore 4, 2) := by decide +kernel
theorem d_Mo_let_46 : decode (mcd M_Mo_let) 46 = .ok (.iload 4, 2) := by decide +kernel
theorem d_Mo_let_48 : decode (mcd M_Mo_let) 48 = .ok (.aload_n 0, 1) := by decide +kernel
theorem d_Mo_let_49 : decode (mcd M_Mo_let) 49 = .ok (.getfield 216, 3) := by decide +kernel
theorem d_Mo_let_52 : decode (mcd M_Mo_let) 52 = .ok (.if_icmp .ge 34, 3) := by decide +kernel
theorem d_Mo_let_55 : decode (mcd M_Mo_let) 55 = .ok (.aload_n 0, 1) := by decide +kernel
theorem d_Mo_let_56 : decode (mcd M_Mo_let) 56 = .ok (.iload_n 1, 1) := by decide +kernel
theorem d_Mo_let_57 : decode (mcd M_Mo_let) 57 = .ok (.aload_n 0, 1) := by decide +kernel
theorem d_Mo_let_58 : decode (mcd M_Mo_let) 58 = .ok (.getfield 41, 3) := by decide +kernel
theorem d_Mo_let_61 : decode (mcd M_Mo_let) 61 = .ok (.aload_n 3, 1) := by decide +kernel
theorem d_Mo_let_62 : decode (mcd M_Mo_let) 62 = .ok (.iload 4, 2) := by decide +kernel
theorem d_Mo_let_64 : decode (mcd M_Mo_let) 64 = .ok (.iaload, 1) := by decide +kernel
theorem d_Mo_let_65 : decode (mcd M_Mo_let) 65 = .ok (.aload_n 0, 1) := by decide +kernel
theorem d_Mo_let_66 : decode (mcd M_Mo_let) 66 = .ok (.aload_n 0, 1) := by decide +kernel
theorem d_Mo_let_67 : decode (mcd M_Mo_let) 67 = .ok (.getfield 41, 3) := by decide +kernel
theorem d_Mo_let_70 : decode (mcd M_Mo_let) 70 = .ok (.aload_n 3, 1) := by decide +kernel
theorem d_Mo_let_71 : decode (mcd M_Mo_let) 71 = .ok (.iload 4, 2) := by decide +kernel
theorem d_Mo_let_73 : decode (mcd M_Mo_let) 73 = .ok (.iaload, 1) := by decide +kernel
theorem d_Mo_let_74 : decode (mcd M_Mo_let) 74 = .ok (.invokevirtual 164, 3) := by decide +kernel
theorem d_Mo_let_77 : decode (mcd M_Mo_let) 77 = .ok (.invokevirtual 205, 3) := by decide +kernel
theorem d_Mo_let_80 : decode (mcd M_Mo_let) 80 = .ok (.iinc 4 1, 3) := by decide +kernel
theorem d_Mo_let_83 : decode (mcd M_Mo_let) 83 = .ok (.goto (-37), 3) := by decide +kernel
theorem d_Mo_let_86 : decode (mcd M_Mo_let) 86 = .ok (.return_, 1) := by decide +kernel
theorem d_Mo_load_0 : decode (mcd M_Mo_load) 0 = .ok (.aload_n 0, 1) := by decide +kernel
theorem d_Mo_load_1 : decode (mcd M_Mo_load) 1 = .ok (.aload_n 0, 1) := by decide +kernel
theorem d_Mo_load_2 : decode (mcd M_Mo_load) 2 = .ok (.getfield 44, 3) := by decide +kernel
theorem d_Mo_load_5 : decode (mcd M_Mo_load) 5 = .ok (.iload_n 1, 1) := by decide +kernel
theorem d_Mo_load_6 : decode (mcd M_Mo_load) 6 = .ok (.iaload, 1) := by decide +kernel
theorem d_Mo_load_7 : decode (mcd M_Mo_load) 7 = .ok (.putfield 157, 3) := by decide +kernel
theorem d_Mo_load_10 : decode (mcd M_Mo_load) 10 = .ok (.iconst 0, 1) := by decide +kernel
theorem d_Mo_load_11 : decode (mcd M_Mo_load) 11 = .ok (.istore_n 2, 1) := by decide +kernel
theorem d_Mo_load_12 : decode (mcd M_Mo_load) 12 = .ok (.iload_n 2, 1) := by decide +kernel
theorem d_Mo_load_13 : decode (mcd M_Mo_load) 13 = .ok (.aload_n 0, 1) := by decide +kernel
theorem d_Mo_load_14 : decode (mcd M_Mo_load) 14 = .ok (.getfield 157, 3) := by decide +kernel
theorem d_Mo_load_17 : decode (mcd M_Mo_load) 17 = .ok (.if_icmp .ge 26, 3) := by decide +kernel
theorem d_Mo_load_20 : decode (mcd M_Mo_load) 20 = .ok (.aload_n 0, 1) := by decide +kernel
theorem d_Mo_load_21 : decode (mcd M_Mo_load) 21 = .ok (.getfield 80, 3) := by decide +kernel
theorem d_Mo_load_24 : decode (mcd M_Mo_load) 24 = .ok (.iload_n 2, 1) := by decide +kernel
theorem d_Mo_load_25 : decode (mcd M_Mo_load) 25 = .ok (.aload_n 0, 1) := by decide +kernel
theorem d_Mo_load_26 : decode (mcd M_Mo_load) 26 = .ok (.getfield 41, 3) := by decide +kernel
theorem d_Mo_load_29 : decode (mcd M_Mo_load) 29 = .ok (.bipush 40, 2) := by decide +kernel
theorem d_Mo_load_31 : decode (mcd M_Mo_load) 31 = .ok (.iload_n 1, 1) := by decide +kernel
theorem d_Mo_load_32 : decode (mcd M_Mo_load) 32 = .ok (.imul, 1) := by decide +kernel
theorem d_Mo_load_33 : decode (mcd M_Mo_load) 33 = .ok (.iload_n 2, 1) := by decide +kernel
theorem d_Mo_load_34 : decode (mcd M_Mo_load) 34 = .ok (.iadd, 1) := by decide +kernel
theorem d_Mo_load_35 : decode (mcd M_Mo_load) 35 = .ok (.iaload, 1) := by decide +kernel
theorem d_Mo_load_36 : decode (mcd M_Mo_load) 36 = .ok (.iastore, 1) := by decide +kernel
theorem d_Mo_load_37 : decode (mcd M_Mo_load) 37 = .ok (.iinc 2 1, 3) := by decide +kernel
theorem d_Mo_load_40 : decode (mcd M_Mo_load) 40 = .ok (.goto (-28), 3) := by decide +kernel
theorem d_Mo_load_43 : decode (mcd M_Mo_load) 43 = .ok (.return_, 1) := by decide +kernel
theorem d_Mo_lowestOpen_0 : decode (mcd M_Mo_lowestOpen) 0 = .ok (.iconst 0, 1) := by decide +kernel
theorem d_Mo_lowestOpen_1 : decode (mcd M_Mo_lowestOpen) 1 = .ok (.istore_n 1, 1) := by decide +kernel
theorem d_Mo_lowestOpen_2 : decode (mcd M_Mo_lowestOpen) 2 = .ok (.iload_n 1, 1) := by decide +kernel
theorem d_Mo_lowestOpen_3 : decode (mcd M_Mo_lowestOpen) 3 = .ok (.aload_n 0, 1) := by decide +kernel
theorem d_Mo_lowestOpen_4 : decode (mcd M_Mo_lowestOpen) 4 = .ok (.getfield 180, 3) := by decide +kernel
theorem d_Mo_lowestOpen_7 : decode (mcd M_Mo_lowestOpen) 7 = .ok (.if_icmp .ge 22, 3) := by decide +kernel
theorem d_Mo_lowestOpen_10 : decode (mcd M_Mo_lowestOpen) 10 = .ok (.aload_n 0, 1) := by decide +kernel
theorem d_Mo_lowestOpen_11 : decode (mcd M_Mo_lowestOpen) 11 = .ok (.getfield 35, 3) := by decide +kernel
theorem d_Mo_lowestOpen_14 : decode (mcd M_Mo_lowestOpen) 14 = .ok (.iload_n 1, 1) := by decide +kernel
theorem d_Mo_lowestOpen_15 : decode (mcd M_Mo_lowestOpen) 15 = .ok (.iaload, 1) := by decide +kernel
theorem d_Mo_lowestOpen_16 : decode (mcd M_Mo_lowestOpen) 16 = .ok (.bipush 8, 2) := by decide +kernel
theorem d_Mo_lowestOpen_18 : decode (mcd M_Mo_lowestOpen) 18 = .ok (.if_icmp .ne 5, 3) := by decide +kernel
theorem d_Mo_lowestOpen_21 : decode (mcd M_Mo_lowestOpen) 21 = .ok (.iload_n 1, 1) := by decide +kernel
theorem d_Mo_lowestOpen_22 : decode (mcd M_Mo_lowestOpen) 22 = .ok (.ireturn, 1) := by decide +kernel
theorem d_Mo_lowestOpen_23 : decode (mcd M_Mo_lowestOpen) 23 = .ok (.iinc 1 1, 3) := by decide +kernel
theorem d_Mo_lowestOpen_26 : decode (mcd M_Mo_lowestOpen) 26 = .ok (.goto (-24), 3) := by decide +kernel
theorem d_Mo_lowestOpen_29 : decode (mcd M_Mo_lowestOpen) 29 = .ok (.iconst (-1), 1) := by decide +kernel
theorem d_Mo_lowestOpen_30 : decode (mcd M_Mo_lowestOpen) 30 = .ok (.ireturn, 1) := by decide +kernel
theorem d_Mo_nextCall_0 : decode (mcd M_Mo_nextCall) 0 = .ok (.iconst 0, 1) := by decide +kernel
theorem d_Mo_nextCall_1 : decode (mcd M_Mo_nextCall) 1 = .ok (.istore_n 1, 1) := by decide +kernel
theorem d_Mo_nextCall_2 : decode (mcd M_Mo_nextCall) 2 = .ok (.iload_n 1, 1) := by decide +kernel
theorem d_Mo_nextCall_3 : decode (mcd M_Mo_nextCall) 3 = .ok (.aload_n 0, 1) := by decide +kernel
theorem d_Mo_nextCall_4 : decode (mcd M_Mo_nextCall) 4 = .ok (.getfield 157, 3) := by decide +kernel
theorem d_Mo_nextCall_7 : decode (mcd M_Mo_nextCall) 7 = .ok (.if_icmp .ge 21, 3) := by decide +kernel
theorem d_Mo_nextCall_10 : decode (mcd M_Mo_nextCall) 10 = .ok (.aload_n 0, 1) := by decide +kernel
theorem d_Mo_nextCall_11 : decode (mcd M_Mo_nextCall) 11 = .ok (.getfield 80, 3) := by decide +kernel
theorem d_Mo_nextCall_14 : decode (mcd M_Mo_nextCall) 14 = .ok (.iload_n 1, 1) := by decide +kernel
theorem d_Mo_nextCall_15 : decode (mcd M_Mo_nextCall) 15 = .ok (.iaload, 1) := by decide +kernel
theorem d_Mo_nextCall_16 : decode (mcd M_Mo_nextCall) 16 = .ok (.sipush 200, 3) := by decide +kernel
theorem d_Mo_nextCall_19 : decode (mcd M_Mo_nextCall) 19 = .ok (.if_icmp .ge 9, 3) := by decide +kernel
theorem d_Mo_nextCall_22 : decode (mcd M_Mo_nextCall) 22 = .ok (.iinc 1 1, 3) := by decide +kernel
theorem d_Mo_nextCall_25 : decode (mcd M_Mo_nextCall) 25 = .ok (.goto (-23), 3) := by decide +kernel
theorem d_Mo_nextCall_28 : decode (mcd M_Mo_nextCall) 28 = .ok (.iload_n 1, 1) := by decide +kernel
theorem d_Mo_nextCall_29 : decode (mcd M_Mo_nextCall) 29 = .ok (.aload_n 0, 1) := by decide +kernel
theorem d_Mo_nextCall_30 : decode (mcd M_Mo_nextCall) 30 = .ok (.getfield 157, 3) := by decide +kernel
theorem d_Mo_nextCall_33 : decode (mcd M_Mo_nextCall) 33 = .ok (.if_icmp .ne 5, 3) := by decide +kernel
theorem d_Mo_nextCall_36 : decode (mcd M_Mo_nextCall) 36 = .ok (.iconst (-1), 1) := by decide +kernel
theorem d_Mo_nextCall_37 : decode (mcd M_Mo_nextCall) 37 = .ok (.ireturn, 1) := by decide +kernel
theorem d_Mo_nextCall_38 : decode (mcd M_Mo_nextCall) 38 = .ok (.aload_n 0, 1) := by decide +kernel
theorem d_Mo_nextCall_39 : decode (mcd M_Mo_nextCall) 39 = .ok (.aload_n 0, 1) := by decide +kernel
theorem d_Mo_nextCall_40 : decode (mcd M_Mo_nextCall) 40 = .ok (.getfield 80, 3) := by decide +kernel
theorem d_Mo_nextCall_43 : decode (mcd M_Mo_nextCall) 43 = .ok (.iload_n 1, 1) := by decide +kernel
theorem d_Mo_nextCall_44 : decode (mcd M_Mo_nextCall) 44 = .ok (.iaload, 1) := by decide +kernel
theorem d_Mo_nextCall_45 : decode (mcd M_Mo_nextCall) 45 = .ok (.invokevirtual 160, 3) := by decide +kernel
theorem d_Mo_nextCall_48 : decode (mcd M_Mo_nextCall) 48 = .ok (.ifCond .eq 23, 3) := by decide +kernel
theorem d_Mo_nextCall_51 : decode (mcd M_Mo_nextCall) 51 = .ok (.aload_n 0, 1) := by decide +kernel
theorem d_Mo_nextCall_52 : decode (mcd M_Mo_nextCall) 52 = .ok (.getfield 80, 3) := by decide +kernel
theorem d_Mo_nextCall_55 : decode (mcd M_Mo_nextCall) 55 = .ok (.iload_n 1, 1) := by decide +kernel
theorem d_Mo_nextCall_56 : decode (mcd M_Mo_nextCall) 56 = .ok (.iconst 1, 1) := by decide +kernel
theorem d_Mo_nextCall_57 : decode (mcd M_Mo_nextCall) 57 = .ok (.iadd, 1) := by decide +kernel
theorem d_Mo_nextCall_58 : decode (mcd M_Mo_nextCall) 58 = .ok (.iaload, 1) := by decide +kernel
theorem d_Mo_nextCall_59 : decode (mcd M_Mo_nextCall) 59 = .ok (.sipush 200, 3) := by decide +kernel
theorem d_Mo_nextCall_62 : decode (mcd M_Mo_nextCall) 62 = .ok (.if_icmp .lt 9, 3) := by decide +kernel
theorem d_Mo_nextCall_65 : decode (mcd M_Mo_nextCall) 65 = .ok (.iinc 1 1, 3) := by decide +kernel
theorem d_Mo_nextCall_68 : decode (mcd M_Mo_nextCall) 68 = .ok (.goto (-30), 3) := by decide +kernel
theorem d_Mo_nextCall_71 : decode (mcd M_Mo_nextCall) 71 = .ok (.iload_n 1, 1) := by decide +kernel
theorem d_Mo_nextCall_72 : decode (mcd M_Mo_nextCall) 72 = .ok (.ireturn, 1) := by decide +kernel
theorem d_Mo_node_0 : decode (mcd M_Mo_node) 0 = .ok (.aload_n 0, 1) := by decide +kernel
theorem d_Mo_node_1 : decode (mcd M_Mo_node) 1 = .ok (.iconst 0, 1) := by decide +kernel
theorem d_Mo_node_2 : decode (mcd M_Mo_node) 2 = .ok (.putfield 117, 3) := by decide +kernel
theorem d_Mo_node_5 : decode (mcd M_Mo_node) 5 = .ok (.aload_n 0, 1) := by decide +kernel
theorem d_Mo_node_6 : decode (mcd M_Mo_node) 6 = .ok (.iload_n 1, 1) := by decide +kernel
theorem d_Mo_node_7 : decode (mcd M_Mo_node) 7 = .ok (.invokevirtual 281, 3) := by decide +kernel
theorem d_Mo_node_10 : decode (mcd M_Mo_node) 10 = .ok (.ifCond .ne 5, 3) := by decide +kernel
theorem d_Mo_node_13 : decode (mcd M_Mo_node) 13 = .ok (.iconst (-1), 1) := by decide +kernel
theorem d_Mo_node_14 : decode (mcd M_Mo_node) 14 = .ok (.ireturn, 1) := by decide +kernel
theorem d_Mo_node_15 : decode (mcd M_Mo_node) 15 = .ok (.iload_n 2, 1) := by decide +kernel
theorem d_Mo_node_16 : decode (mcd M_Mo_node) 16 = .ok (.tableswitch 106 0 3 #[32, 39, 46, 91], 32) := by decide +kernel
theorem d_Mo_node_48 : decode (mcd M_Mo_node) 48 = .ok (.aload_n 0, 1) := by decide +kernel
theorem d_Mo_node_49 : decode (mcd M_Mo_node) 49 = .ok (.getfield 35, 3) := by decide +kernel
theorem d_Mo_node_52 : decode (mcd M_Mo_node) 52 = .ok (.iload_n 1, 1) := by decide +kernel
theorem d_Mo_node_53 : decode (mcd M_Mo_node) 53 = .ok (.iaload, 1) := by decide +kernel
theorem d_Mo_node_54 : decode (mcd M_Mo_node) 54 = .ok (.ireturn, 1) := by decide +kernel
theorem d_Mo_node_55 : decode (mcd M_Mo_node) 55 = .ok (.aload_n 0, 1) := by decide +kernel
theorem d_Mo_node_56 : decode (mcd M_Mo_node) 56 = .ok (.getfield 38, 3) := by decide +kernel
theorem d_Mo_node_59 : decode (mcd M_Mo_node) 59 = .ok (.iload_n 1, 1) := by decide +kernel
theorem d_Mo_node_60 : decode (mcd M_Mo_node) 60 = .ok (.iaload, 1) := by decide +kernel
theorem d_Mo_node_61 : decode (mcd M_Mo_node) 61 = .ok (.ireturn, 1) := by decide +kernel
theorem d_Mo_node_62 : decode (mcd M_Mo_node) 62 = .ok (.aload_n 0, 1) := by decide +kernel
theorem d_Mo_node_63 : decode (mcd M_Mo_node) 63 = .ok (.getfield 35, 3) := by decide +kernel
theorem d_Mo_node_66 : decode (mcd M_Mo_node) 66 = .ok (.iload_n 1, 1) := by decide +kernel
theorem d_Mo_node_67 : decode (mcd M_Mo_node) 67 = .ok (.iaload, 1) := by decide +kernel
theorem d_Mo_node_68 : decode (mcd M_Mo_node) 68 = .ok (.iconst 2, 1) := by decide +kernel
theorem d_Mo_node_69 : decode (mcd M_Mo_node) 69 = .ok (.if_icmp .ne 18, 3) := by decide +kernel
theorem d_Mo_node_72 : decode (mcd M_Mo_node) 72 = .ok (.aload_n 0, 1) := by decide +kernel
theorem d_Mo_node_73 : decode (mcd M_Mo_node) 73 = .ok (.getfield 41, 3) := by decide +kernel
theorem d_Mo_node_76 : decode (mcd M_Mo_node) 76 = .ok (.bipush 40, 2) := by decide +kernel
theorem d_Mo_node_78 : decode (mcd M_Mo_node) 78 = .ok (.iload_n 1, 1) := by decide +kernel
theorem d_Mo_node_79 : decode (mcd M_Mo_node) 79 = .ok (.imul, 1) := by decide +kernel
theorem d_Mo_node_80 : decode (mcd M_Mo_node) 80 = .ok (.iaload, 1) := by decide +kernel
theorem d_Mo_node_81 : decode (mcd M_Mo_node) 81 = .ok (.bipush 100, 2) := by decide +kernel
theorem d_Mo_node_83 : decode (mcd M_Mo_node) 83 = .ok (.isub, 1) := by decide +kernel
theorem d_Mo_node_84 : decode (mcd M_Mo_node) 84 = .ok (.goto 22, 3) := by decide +kernel
theorem d_Mo_node_87 : decode (mcd M_Mo_node) 87 = .ok (.aload_n 0, 1) := by decide +kernel
theorem d_Mo_node_88 : decode (mcd M_Mo_node) 88 = .ok (.getfield 35, 3) := by decide +kernel
theorem d_Mo_node_91 : decode (mcd M_Mo_node) 91 = .ok (.iload_n 1, 1) := by decide +kernel
theorem d_Mo_node_92 : decode (mcd M_Mo_node) 92 = .ok (.iaload, 1) := by decide +kernel
theorem d_Mo_node_93 : decode (mcd M_Mo_node) 93 = .ok (.ifCond .ne 7, 3) := by decide +kernel
theorem d_Mo_node_96 : decode (mcd M_Mo_node) 96 = .ok (.iconst (-1), 1) := by decide +kernel
theorem d_Mo_node_97 : decode (mcd M_Mo_node) 97 = .ok (.goto 9, 3) := by decide +kernel
theorem d_Mo_node_100 : decode (mcd M_Mo_node) 100 = .ok (.aload_n 0, 1) := by decide +kernel
theorem d_Mo_node_101 : decode (mcd M_Mo_node) 101 = .ok (.getfield 47, 3) := by decide +kernel
theorem d_Mo_node_104 : decode (mcd M_Mo_node) 104 = .ok (.iload_n 1, 1) := by decide +kernel
theorem d_Mo_node_105 : decode (mcd M_Mo_node) 105 = .ok (.iaload, 1) := by decide +kernel
theorem d_Mo_node_106 : decode (mcd M_Mo_node) 106 = .ok (.ireturn, 1) := by decide +kernel
theorem d_Mo_node_107 : decode (mcd M_Mo_node) 107 = .ok (.aload_n 0, 1) := by decide +kernel
theorem d_Mo_node_108 : decode (mcd M_Mo_node) 108 = .ok (.getfield 65, 3) := by decide +kernel
theorem d_Mo_node_111 : decode (mcd M_Mo_node) 111 = .ok (.iload_n 1, 1) := by decide +kernel
theorem d_Mo_node_112 : decode (mcd M_Mo_node) 112 = .ok (.baload, 1) := by decide +kernel
theorem d_Mo_node_113 : decode (mcd M_Mo_node) 113 = .ok (.ifCond .eq 7, 3) := by decide +kernel
theorem d_Mo_node_116 : decode (mcd M_Mo_node) 116 = .ok (.iconst 1, 1) := by decide +kernel
theorem d_Mo_node_117 : decode (mcd M_Mo_node) 117 = .ok (.goto 4, 3) := by decide +kernel
theorem d_Mo_node_120 : decode (mcd M_Mo_node) 120 = .ok (.iconst 0, 1) := by decide +kernel
theorem d_Mo_node_121 : decode (mcd M_Mo_node) 121 = .ok (.ireturn, 1) := by decide +kernel
theorem d_Mo_node_122 : decode (mcd M_Mo_node) 122 = .ok (.iconst (-1), 1) := by decide +kernel
theorem d_Mo_node_123 : decode (mcd M_Mo_node) 123 = .ok (.ireturn, 1) := by decide +kernel
theorem d_Mo_partsOf_0 : decode (mcd M_Mo_partsOf) 0 = .ok (.iload_n 1, 1) := by decide +kernel
theorem d_Mo_partsOf_1 : decode (mcd M_Mo_partsOf) 1 = .ok (.bipush 100, 2) := by decide +kernel
theorem d_Mo_partsOf_3 : decode (mcd M_Mo_partsOf) 3 = .ok (.if_icmp .lt 10, 3) := by decide +kernel
theorem d_Mo_partsOf_6 : decode (mcd M_Mo_partsOf) 6 = .ok (.iload_n 1, 1) := by decide +kernel
theorem d_Mo_partsOf_7 : decode (mcd M_Mo_partsOf) 7 = .ok (.sipush 400, 3) := by decide +kernel
theorem d_Mo_partsOf_10 : decode (mcd M_Mo_partsOf) 10 = .ok (.if_icmp .ne 5, 3) := by decide +kernel
theorem d_Mo_partsOf_13 : decode (mcd M_Mo_partsOf) 13 = .ok (.iconst 0, 1) := by decide +kernel
theorem d_Mo_partsOf_14 : decode (mcd M_Mo_partsOf) 14 = .ok (.ireturn, 1) := by decide +kernel
theorem d_Mo_partsOf_15 : decode (mcd M_Mo_partsOf) 15 = .ok (.iload_n 1, 1) := by decide +kernel
theorem d_Mo_partsOf_16 : decode (mcd M_Mo_partsOf) 16 = .ok (.sipush 200, 3) := by decide +kernel
theorem d_Mo_partsOf_19 : decode (mcd M_Mo_partsOf) 19 = .ok (.if_icmp .ge 8, 3) := by decide +kernel
theorem d_Mo_partsOf_22 : decode (mcd M_Mo_partsOf) 22 = .ok (.iload_n 1, 1) := by decide +kernel
theorem d_Mo_partsOf_23 : decode (mcd M_Mo_partsOf) 23 = .ok (.invokestatic 120, 3) := by decide +kernel
theorem d_Mo_partsOf_26 : decode (mcd M_Mo_partsOf) 26 = .ok (.ireturn, 1) := by decide +kernel
theorem d_Mo_partsOf_27 : decode (mcd M_Mo_partsOf) 27 = .ok (.iload_n 1, 1) := by decide +kernel
theorem d_Mo_partsOf_28 : decode (mcd M_Mo_partsOf) 28 = .ok (.sipush 300, 3) := by decide +kernel
theorem d_Mo_partsOf_31 : decode (mcd M_Mo_partsOf) 31 = .ok (.if_icmp .ge 16, 3) := by decide +kernel
theorem d_Mo_partsOf_34 : decode (mcd M_Mo_partsOf) 34 = .ok (.aload_n 0, 1) := by decide +kernel
theorem d_Mo_partsOf_35 : decode (mcd M_Mo_partsOf) 35 = .ok (.getfield 13, 3) := by decide +kernel
theorem d_Mo_partsOf_38 : decode (mcd M_Mo_partsOf) 38 = .ok (.iload_n 1, 1) := by decide +kernel
theorem d_Mo_partsOf_39 : decode (mcd M_Mo_partsOf) 39 = .ok (.sipush 200, 3) := by decide +kernel
theorem d_Mo_partsOf_42 : decode (mcd M_Mo_partsOf) 42 = .ok (.isub, 1) := by decide +kernel
theorem d_Mo_partsOf_43 : decode (mcd M_Mo_partsOf) 43 = .ok (.iaload, 1) := by decide +kernel
theorem d_Mo_partsOf_44 : decode (mcd M_Mo_partsOf) 44 = .ok (.goto 13, 3) := by decide +kernel
theorem d_Mo_partsOf_47 : decode (mcd M_Mo_partsOf) 47 = .ok (.aload_n 0, 1) := by decide +kernel
theorem d_Mo_partsOf_48 : decode (mcd M_Mo_partsOf) 48 = .ok (.getfield 71, 3) := by decide +kernel
theorem d_Mo_partsOf_51 : decode (mcd M_Mo_partsOf) 51 = .ok (.iload_n 1, 1) := by decide +kernel
theorem d_Mo_partsOf_52 : decode (mcd M_Mo_partsOf) 52 = .ok (.sipush 300, 3) := by decide +kernel
theorem d_Mo_partsOf_55 : decode (mcd M_Mo_partsOf) 55 = .ok (.isub, 1) := by decide +kernel
theorem d_Mo_partsOf_56 : decode (mcd M_Mo_partsOf) 56 = .ok (.iaload, 1) := by decide +kernel
theorem d_Mo_partsOf_57 : decode (mcd M_Mo_partsOf) 57 = .ok (.ireturn, 1) := by decide +kernel
theorem d_Mo_put_0 : decode (mcd M_Mo_put) 0 = .ok (.aload_n 0, 1) := by decide +kernel
theorem d_Mo_put_1 : decode (mcd M_Mo_put) 1 = .ok (.getfield 80, 3) := by decide +kernel
theorem d_Mo_put_4 : decode (mcd M_Mo_put) 4 = .ok (.aload_n 0, 1) := by decide +kernel
theorem d_Mo_put_5 : decode (mcd M_Mo_put) 5 = .ok (.getfield 157, 3) := by decide +kernel
theorem d_Mo_put_8 : decode (mcd M_Mo_put) 8 = .ok (.iload_n 1, 1) := by decide +kernel
theorem d_Mo_put_9 : decode (mcd M_Mo_put) 9 = .ok (.iastore, 1) := by decide +kernel
theorem d_Mo_put_10 : decode (mcd M_Mo_put) 10 = .ok (.aload_n 0, 1) := by decide +kernel
theorem d_Mo_put_11 : decode (mcd M_Mo_put) 11 = .ok (.dup, 1) := by decide +kernel
theorem d_Mo_put_12 : decode (mcd M_Mo_put) 12 = .ok (.getfield 157, 3) := by decide +kernel
theorem d_Mo_put_15 : decode (mcd M_Mo_put) 15 = .ok (.iconst 1, 1) := by decide +kernel
theorem d_Mo_put_16 : decode (mcd M_Mo_put) 16 = .ok (.iadd, 1) := by decide +kernel
theorem d_Mo_put_17 : decode (mcd M_Mo_put) 17 = .ok (.putfield 157, 3) := by decide +kernel
theorem d_Mo_put_20 : decode (mcd M_Mo_put) 20 = .ok (.return_, 1) := by decide +kernel
theorem d_Mo_putCall_0 : decode (mcd M_Mo_putCall) 0 = .ok (.aload_n 0, 1) := by decide +kernel
theorem d_Mo_putCall_1 : decode (mcd M_Mo_putCall) 1 = .ok (.sipush 300, 3) := by decide +kernel
theorem d_Mo_putCall_4 : decode (mcd M_Mo_putCall) 4 = .ok (.iload_n 1, 1) := by decide +kernel
theorem d_Mo_putCall_5 : decode (mcd M_Mo_putCall) 5 = .ok (.iadd, 1) := by decide +kernel
theorem d_Mo_putCall_6 : decode (mcd M_Mo_putCall) 6 = .ok (.invokevirtual 272, 3) := by decide +kernel
theorem d_Mo_putCall_9 : decode (mcd M_Mo_putCall) 9 = .ok (.iconst 0, 1) := by decide +kernel
theorem d_Mo_putCall_10 : decode (mcd M_Mo_putCall) 10 = .ok (.istore_n 2, 1) := by decide +kernel
theorem d_Mo_putCall_11 : decode (mcd M_Mo_putCall) 11 = .ok (.iload_n 2, 1) := by decide +kernel
theorem d_Mo_putCall_12 : decode (mcd M_Mo_putCall) 12 = .ok (.aload_n 0, 1) := by decide +kernel
theorem d_Mo_putCall_13 : decode (mcd M_Mo_putCall) 13 = .ok (.getfield 71, 3) := by decide +kernel
theorem d_Mo_putCall_16 : decode (mcd M_Mo_putCall) 16 = .ok (.iload_n 1, 1) := by decide +kernel
theorem d_Mo_putCall_17 : decode (mcd M_Mo_putCall) 17 = .ok (.iaload, 1) := by decide +kernel
theorem d_Mo_putCall_18 : decode (mcd M_Mo_putCall) 18 = .ok (.if_icmp .ge 24, 3) := by decide +kernel
theorem d_Mo_putCall_21 : decode (mcd M_Mo_putCall) 21 = .ok (.aload_n 0, 1) := by decide +kernel
theorem d_Mo_putCall_22 : decode (mcd M_Mo_putCall) 22 = .ok (.aload_n 0, 1) := by decide +kernel
theorem d_Mo_putCall_23 : decode (mcd M_Mo_putCall) 23 = .ok (.getfield 68, 3) := by decide +kernel
theorem d_Mo_putCall_26 : decode (mcd M_Mo_putCall) 26 = .ok (.bipush 40, 2) := by decide +kernel
theorem d_Mo_putCall_28 : decode (mcd M_Mo_putCall) 28 = .ok (.iload_n 1, 1) := by decide +kernel
theorem d_Mo_putCall_29 : decode (mcd M_Mo_putCall) 29 = .ok (.imul, 1) := by decide +kernel
theorem d_Mo_putCall_30 : decode (mcd M_Mo_putCall) 30 = .ok (.iload_n 2, 1) := by decide +kernel
theorem d_Mo_putCall_31 : decode (mcd M_Mo_putCall) 31 = .ok (.iadd, 1) := by decide +kernel
theorem d_Mo_putCall_32 : decode (mcd M_Mo_putCall) 32 = .ok (.iaload, 1) := by decide +kernel
theorem d_Mo_putCall_33 : decode (mcd M_Mo_putCall) 33 = .ok (.invokevirtual 272, 3) := by decide +kernel
theorem d_Mo_putCall_36 : decode (mcd M_Mo_putCall) 36 = .ok (.iinc 2 1, 3) := by decide +kernel
theorem d_Mo_putCall_39 : decode (mcd M_Mo_putCall) 39 = .ok (.goto (-28), 3) := by decide +kernel
theorem d_Mo_putCall_42 : decode (mcd M_Mo_putCall) 42 = .ok (.return_, 1) := by decide +kernel
theorem d_Mo_putResidual_0 : decode (mcd M_Mo_putResidual) 0 = .ok (.iconst 0, 1) := by decide +kernel
theorem d_Mo_putResidual_1 : decode (mcd M_Mo_putResidual) 1 = .ok (.istore_n 2, 1) := by decide +kernel
theorem d_Mo_putResidual_2 : decode (mcd M_Mo_putResidual) 2 = .ok (.iload_n 2, 1) := by decide +kernel
theorem d_Mo_putResidual_3 : decode (mcd M_Mo_putResidual) 3 = .ok (.aload_n 0, 1) := by decide +kernel
theorem d_Mo_putResidual_4 : decode (mcd M_Mo_putResidual) 4 = .ok (.getfield 77, 3) := by decide +kernel
theorem d_Mo_putResidual_7 : decode (mcd M_Mo_putResidual) 7 = .ok (.iload_n 1, 1) := by decide +kernel
theorem d_Mo_putResidual_8 : decode (mcd M_Mo_putResidual) 8 = .ok (.iaload, 1) := by decide +kernel
theorem d_Mo_putResidual_9 : decode (mcd M_Mo_putResidual) 9 = .ok (.if_icmp .ge 24, 3) := by decide +kernel
theorem d_Mo_putResidual_12 : decode (mcd M_Mo_putResidual) 12 = .ok (.aload_n 0, 1) := by decide +kernel
theorem d_Mo_putResidual_13 : decode (mcd M_Mo_putResidual) 13 = .ok (.aload_n 0, 1) := by decide +kernel
theorem d_Mo_putResidual_14 : decode (mcd M_Mo_putResidual) 14 = .ok (.getfield 74, 3) := by decide +kernel
theorem d_Mo_putResidual_17 : decode (mcd M_Mo_putResidual) 17 = .ok (.bipush 100, 2) := by decide +kernel
theorem d_Mo_putResidual_19 : decode (mcd M_Mo_putResidual) 19 = .ok (.iload_n 1, 1) := by decide +kernel
theorem d_Mo_putResidual_20 : decode (mcd M_Mo_putResidual) 20 = .ok (.imul, 1) := by decide +kernel
theorem d_Mo_putResidual_21 : decode (mcd M_Mo_putResidual) 21 = .ok (.iload_n 2, 1) := by decide +kernel
theorem d_Mo_putResidual_22 : decode (mcd M_Mo_putResidual) 22 = .ok (.iadd, 1) := by decide +kernel
theorem d_Mo_putResidual_23 : decode (mcd M_Mo_putResidual) 23 = .ok (.iaload, 1) := by decide +kernel
theorem d_Mo_putResidual_24 : decode (mcd M_Mo_putResidual) 24 = .ok (.invokevirtual 272, 3) := by decide +kernel
theorem d_Mo_putResidual_27 : decode (mcd M_Mo_putResidual) 27 = .ok (.iinc 2 1, 3) := by decide +kernel
theorem d_Mo_putResidual_30 : decode (mcd M_Mo_putResidual) 30 = .ok (.goto (-28), 3) := by decide +kernel
theorem d_Mo_putResidual_33 : decode (mcd M_Mo_putResidual) 33 = .ok (.return_, 1) := by decide +kernel
theorem d_Mo_renames_0 : decode (mcd M_Mo_renames) 0 = .ok (.iconst 0, 1) := by decide +kernel
theorem d_Mo_renames_1 : decode (mcd M_Mo_renames) 1 = .ok (.istore 7, 2) := by decide +kernel
theorem d_Mo_renames_3 : decode (mcd M_Mo_renames) 3 = .ok (.iload 7, 2) := by decide +kernel
theorem d_Mo_renames_5 : decode (mcd M_Mo_renames) 5 = .ok (.bipush 100, 2) := by decide +kernel
theorem d_Mo_renames_7 : decode (mcd M_Mo_renames) 7 = .ok (.if_icmp .ge 25, 3) := by decide +kernel
theorem d_Mo_renames_10 : decode (mcd M_Mo_renames) 10 = .ok (.aload_n 0, 1) := by decide +kernel
theorem d_Mo_renames_11 : decode (mcd M_Mo_renames) 11 = .ok (.getfield 92, 3) := by decide +kernel
theorem d_Mo_renames_14 : decode (mcd M_Mo_renames) 14 = .ok (.iload 7, 2) := by decide +kernel
theorem d_Mo_renames_16 : decode (mcd M_Mo_renames) 16 = .ok (.iconst (-1), 1) := by decide +kernel
theorem d_Mo_renames_17 : decode (mcd M_Mo_renames) 17 = .ok (.iastore, 1) := by decide +kernel
theorem d_Mo_renames_18 : decode (mcd M_Mo_renames) 18 = .ok (.aload_n 0, 1) := by decide +kernel
theorem d_Mo_renames_19 : decode (mcd M_Mo_renames) 19 = .ok (.getfield 95, 3) := by decide +kernel
theorem d_Mo_renames_22 : decode (mcd M_Mo_renames) 22 = .ok (.iload 7, 2) := by decide +kernel
theorem d_Mo_renames_24 : decode (mcd M_Mo_renames) 24 = .ok (.iconst (-1), 1) := by decide +kernel
theorem d_Mo_renames_25 : decode (mcd M_Mo_renames) 25 = .ok (.iastore, 1) := by decide +kernel
theorem d_Mo_renames_26 : decode (mcd M_Mo_renames) 26 = .ok (.iinc 7 1, 3) := by decide +kernel
theorem d_Mo_renames_29 : decode (mcd M_Mo_renames) 29 = .ok (.goto (-26), 3) := by decide +kernel
theorem d_Mo_renames_32 : decode (mcd M_Mo_renames) 32 = .ok (.iload_n 3, 1) := by decide +kernel
theorem d_Mo_renames_33 : decode (mcd M_Mo_renames) 33 = .ok (.iload 6, 2) := by decide +kernel
theorem d_Mo_renames_35 : decode (mcd M_Mo_renames) 35 = .ok (.if_icmp .ne 7, 3) := by decide +kernel
theorem d_Mo_renames_38 : decode (mcd M_Mo_renames) 38 = .ok (.iconst 1, 1) := by decide +kernel
theorem d_Mo_renames_39 : decode (mcd M_Mo_renames) 39 = .ok (.goto 4, 3) := by decide +kernel
theorem d_Mo_renames_42 : decode (mcd M_Mo_renames) 42 = .ok (.iconst 0, 1) := by decide +kernel
theorem d_Mo_renames_43 : decode (mcd M_Mo_renames) 43 = .ok (.istore 7, 2) := by decide +kernel
theorem d_Mo_renames_45 : decode (mcd M_Mo_renames) 45 = .ok (.iconst 0, 1) := by decide +kernel
theorem d_Mo_renames_46 : decode (mcd M_Mo_renames) 46 = .ok (.istore 8, 2) := by decide +kernel
theorem d_Mo_renames_48 : decode (mcd M_Mo_renames) 48 = .ok (.iload 8, 2) := by decide +kernel
theorem d_Mo_renames_50 : decode (mcd M_Mo_renames) 50 = .ok (.iload_n 3, 1) := by decide +kernel
theorem d_Mo_renames_51 : decode (mcd M_Mo_renames) 51 = .ok (.if_icmp .ge 134, 3) := by decide +kernel
theorem d_Mo_renames_54 : decode (mcd M_Mo_renames) 54 = .ok (.iload 7, 2) := by decide +kernel
theorem d_Mo_renames_56 : decode (mcd M_Mo_renames) 56 = .ok (.ifCond .eq 129, 3) := by decide +kernel
theorem d_Mo_renames_59 : decode (mcd M_Mo_renames) 59 = .ok (.aload_n 1, 1) := by decide +kernel
theorem d_Mo_renames_60 : decode (mcd M_Mo_renames) 60 = .ok (.iload_n 2, 1) := by decide +kernel
theorem d_Mo_renames_61 : decode (mcd M_Mo_renames) 61 = .ok (.iload 8, 2) := by decide +kernel
theorem d_Mo_renames_63 : decode (mcd M_Mo_renames) 63 = .ok (.iadd, 1) := by decide +kernel
theorem d_Mo_renames_64 : decode (mcd M_Mo_renames) 64 = .ok (.iaload, 1) := by decide +kernel
theorem d_Mo_renames_65 : decode (mcd M_Mo_renames) 65 = .ok (.istore 9, 2) := by decide +kernel
theorem d_Mo_renames_67 : decode (mcd M_Mo_renames) 67 = .ok (.aload 4, 2) := by decide +kernel
theorem d_Mo_renames_69 : decode (mcd M_Mo_renames) 69 = .ok (.iload 5, 2) := by decide +kernel
theorem d_Mo_renames_71 : decode (mcd M_Mo_renames) 71 = .ok (.iload 8, 2) := by decide +kernel
theorem d_Mo_renames_73 : decode (mcd M_Mo_renames) 73 = .ok (.iadd, 1) := by decide +kernel
theorem d_Mo_renames_74 : decode (mcd M_Mo_renames) 74 = .ok (.iaload, 1) := by decide +kernel
theorem d_Mo_renames_75 : decode (mcd M_Mo_renames) 75 = .ok (.istore 10, 2) := by decide +kernel
theorem d_Mo_renames_77 : decode (mcd M_Mo_renames) 77 = .ok (.iload 9, 2) := by decide +kernel
theorem d_Mo_renames_79 : decode (mcd M_Mo_renames) 79 = .ok (.bipush 100, 2) := by decide +kernel
theorem d_Mo_renames_81 : decode (mcd M_Mo_renames) 81 = .ok (.if_icmp .ge 10, 3) := by decide +kernel
theorem d_Mo_renames_84 : decode (mcd M_Mo_renames) 84 = .ok (.iload 10, 2) := by decide +kernel
theorem d_Mo_renames_86 : decode (mcd M_Mo_renames) 86 = .ok (.bipush 100, 2) := by decide +kernel
theorem d_Mo_renames_88 : decode (mcd M_Mo_renames) 88 = .ok (.if_icmp .lt 20, 3) := by decide +kernel
theorem d_Mo_renames_91 : decode (mcd M_Mo_renames) 91 = .ok (.iload 9, 2) := by decide +kernel
theorem d_Mo_renames_93 : decode (mcd M_Mo_renames) 93 = .ok (.iload 10, 2) := by decide +kernel
theorem d_Mo_renames_95 : decode (mcd M_Mo_renames) 95 = .ok (.if_icmp .ne 7, 3) := by decide +kernel
theorem d_Mo_renames_98 : decode (mcd M_Mo_renames) 98 = .ok (.iconst 1, 1) := by decide +kernel
theorem d_Mo_renames_99 : decode (mcd M_Mo_renames) 99 = .ok (.goto 4, 3) := by decide +kernel
theorem d_Mo_renames_102 : decode (mcd M_Mo_renames) 102 = .ok (.iconst 0, 1) := by decide +kernel
theorem d_Mo_renames_103 : decode (mcd M_Mo_renames) 103 = .ok (.istore 7, 2) := by decide +kernel
theorem d_Mo_renames_105 : decode (mcd M_Mo_renames) 105 = .ok (.goto 74, 3) := by decide +kernel
theorem d_Mo_renames_108 : decode (mcd M_Mo_renames) 108 = .ok (.aload_n 0, 1) := by decide +kernel
theorem d_Mo_renames_109 : decode (mcd M_Mo_renames) 109 = .ok (.getfield 92, 3) := by decide +kernel
theorem d_Mo_renames_112 : decode (mcd M_Mo_renames) 112 = .ok (.iload 9, 2) := by decide +kernel
theorem d_Mo_renames_114 : decode (mcd M_Mo_renames) 114 = .ok (.iaload, 1) := by decide +kernel
theorem d_Mo_renames_115 : decode (mcd M_Mo_renames) 115 = .ok (.iconst (-1), 1) := by decide +kernel
theorem d_Mo_renames_116 : decode (mcd M_Mo_renames) 116 = .ok (.if_icmp .eq 15, 3) := by decide +kernel
theorem d_Mo_renames_119 : decode (mcd M_Mo_renames) 119 = .ok (.aload_n 0, 1) := by decide +kernel
theorem d_Mo_renames_120 : decode (mcd M_Mo_renames) 120 = .ok (.getfield 92, 3) := by decide +kernel
theorem d_Mo_renames_123 : decode (mcd M_Mo_renames) 123 = .ok (.iload 9, 2) := by decide +kernel
theorem d_Mo_renames_125 : decode (mcd M_Mo_renames) 125 = .ok (.iaload, 1) := by decide +kernel
theorem d_Mo_renames_126 : decode (mcd M_Mo_renames) 126 = .ok (.iload 10, 2) := by decide +kernel
theorem d_Mo_renames_128 : decode (mcd M_Mo_renames) 128 = .ok (.if_icmp .ne 30, 3) := by decide +kernel
theorem d_Mo_renames_131 : decode (mcd M_Mo_renames) 131 = .ok (.aload_n 0, 1) := by decide +kernel
theorem d_Mo_renames_132 : decode (mcd M_Mo_renames) 132 = .ok (.getfield 95, 3) := by decide +kernel
theorem d_Mo_renames_135 : decode (mcd M_Mo_renames) 135 = .ok (.iload 10, 2) := by decide +kernel
theorem d_Mo_renames_137 : decode (mcd M_Mo_renames) 137 = .ok (.iaload, 1) := by decide +kernel
theorem d_Mo_renames_138 : decode (mcd M_Mo_renames) 138 = .ok (.iconst (-1), 1) := by decide +kernel
theorem d_Mo_renames_139 : decode (mcd M_Mo_renames) 139 = .ok (.if_icmp .eq 15, 3) := by decide +kernel
theorem d_Mo_renames_142 : decode (mcd M_Mo_renames) 142 = .ok (.aload_n 0, 1) := by decide +kernel
theorem d_Mo_renames_143 : decode (mcd M_Mo_renames) 143 = .ok (.getfield 95, 3) := by decide +kernel
theorem d_Mo_renames_146 : decode (mcd M_Mo_renames) 146 = .ok (.iload 10, 2) := by decide +kernel
theorem d_Mo_renames_148 : decode (mcd M_Mo_renames) 148 = .ok (.iaload, 1) := by decide +kernel
theorem d_Mo_renames_149 : decode (mcd M_Mo_renames) 149 = .ok (.iload 9, 2) := by decide +kernel
theorem d_Mo_renames_151 : decode (mcd M_Mo_renames) 151 = .ok (.if_icmp .ne 7, 3) := by decide +kernel
theorem d_Mo_renames_154 : decode (mcd M_Mo_renames) 154 = .ok (.iconst 1, 1) := by decide +kernel
theorem d_Mo_renames_155 : decode (mcd M_Mo_renames) 155 = .ok (.goto 4, 3) := by decide +kernel
theorem d_Mo_renames_158 : decode (mcd M_Mo_renames) 158 = .ok (.iconst 0, 1) := by decide +kernel
theorem d_Mo_renames_159 : decode (mcd M_Mo_renames) 159 = .ok (.istore 7, 2) := by decide +kernel
theorem d_Mo_renames_161 : decode (mcd M_Mo_renames) 161 = .ok (.aload_n 0, 1) := by decide +kernel
theorem d_Mo_renames_162 : decode (mcd M_Mo_renames) 162 = .ok (.getfield 92, 3) := by decide +kernel
theorem d_Mo_renames_165 : decode (mcd M_Mo_renames) 165 = .ok (.iload 9, 2) := by decide +kernel
theorem d_Mo_renames_167 : decode (mcd M_Mo_renames) 167 = .ok (.iload 10, 2) := by decide +kernel
theorem d_Mo_renames_169 : decode (mcd M_Mo_renames) 169 = .ok (.iastore, 1) := by decide +kernel
theorem d_Mo_renames_170 : decode (mcd M_Mo_renames) 170 = .ok (.aload_n 0, 1) := by decide +kernel
theorem d_Mo_renames_171 : decode (mcd M_Mo_renames) 171 = .ok (.getfield 95, 3) := by decide +kernel
theorem d_Mo_renames_174 : decode (mcd M_Mo_renames) 174 = .ok (.iload 10, 2) := by decide +kernel
theorem d_Mo_renames_176 : decode (mcd M_Mo_renames) 176 = .ok (.iload 9, 2) := by decide +kernel
theorem d_Mo_renames_178 : decode (mcd M_Mo_renames) 178 = .ok (.iastore, 1) := by decide +kernel
theorem d_Mo_renames_179 : decode (mcd M_Mo_renames) 179 = .ok (.iinc 8 1, 3) := by decide +kernel
theorem d_Mo_renames_182 : decode (mcd M_Mo_renames) 182 = .ok (.goto (-134), 3) := by decide +kernel
theorem d_Mo_renames_185 : decode (mcd M_Mo_renames) 185 = .ok (.iload 7, 2) := by decide +kernel
theorem d_Mo_renames_187 : decode (mcd M_Mo_renames) 187 = .ok (.ireturn, 1) := by decide +kernel
theorem d_Mo_renew_0 : decode (mcd M_Mo_renew) 0 = .ok (.aload_n 0, 1) := by decide +kernel
theorem d_Mo_renew_1 : decode (mcd M_Mo_renew) 1 = .ok (.getfield 183, 3) := by decide +kernel
theorem d_Mo_renew_4 : decode (mcd M_Mo_renew) 4 = .ok (.istore_n 2, 1) := by decide +kernel
theorem d_Mo_renew_5 : decode (mcd M_Mo_renew) 5 = .ok (.aload_n 0, 1) := by decide +kernel
theorem d_Mo_renew_6 : decode (mcd M_Mo_renew) 6 = .ok (.aload_n 0, 1) := by decide +kernel
theorem d_Mo_renew_7 : decode (mcd M_Mo_renew) 7 = .ok (.getfield 183, 3) := by decide +kernel
theorem d_Mo_renew_10 : decode (mcd M_Mo_renew) 10 = .ok (.iload_n 1, 1) := by decide +kernel
theorem d_Mo_renew_11 : decode (mcd M_Mo_renew) 11 = .ok (.iadd, 1) := by decide +kernel
theorem d_Mo_renew_12 : decode (mcd M_Mo_renew) 12 = .ok (.putfield 183, 3) := by decide +kernel
theorem d_Mo_renew_15 : decode (mcd M_Mo_renew) 15 = .ok (.aload_n 0, 1) := by decide +kernel
theorem d_Mo_renew_16 : decode (mcd M_Mo_renew) 16 = .ok (.aload_n 0, 1) := by decide +kernel
theorem d_Mo_renew_17 : decode (mcd M_Mo_renew) 17 = .ok (.getfield 177, 3) := by decide +kernel
theorem d_Mo_renew_20 : decode (mcd M_Mo_renew) 20 = .ok (.ifCond .ne 12, 3) := by decide +kernel
theorem d_Mo_renew_23 : decode (mcd M_Mo_renew) 23 = .ok (.aload_n 0, 1) := by decide +kernel
theorem d_Mo_renew_24 : decode (mcd M_Mo_renew) 24 = .ok (.getfield 183, 3) := by decide +kernel
theorem d_Mo_renew_27 : decode (mcd M_Mo_renew) 27 = .ok (.bipush 100, 2) := by decide +kernel
theorem d_Mo_renew_29 : decode (mcd M_Mo_renew) 29 = .ok (.if_icmp .le 7, 3) := by decide +kernel
theorem d_Mo_renew_32 : decode (mcd M_Mo_renew) 32 = .ok (.iconst 1, 1) := by decide +kernel
theorem d_Mo_renew_33 : decode (mcd M_Mo_renew) 33 = .ok (.goto 4, 3) := by decide +kernel
theorem d_Mo_renew_36 : decode (mcd M_Mo_renew) 36 = .ok (.iconst 0, 1) := by decide +kernel
theorem d_Mo_renew_37 : decode (mcd M_Mo_renew) 37 = .ok (.putfield 177, 3) := by decide +kernel
theorem d_Mo_renew_40 : decode (mcd M_Mo_renew) 40 = .ok (.iload_n 2, 1) := by decide +kernel
theorem d_Mo_renew_41 : decode (mcd M_Mo_renew) 41 = .ok (.ireturn, 1) := by decide +kernel
theorem d_Mo_residual_0 : decode (mcd M_Mo_residual) 0 = .ok (.aload_n 0, 1) := by decide +kernel
theorem d_Mo_residual_1 : decode (mcd M_Mo_residual) 1 = .ok (.iconst 0, 1) := by decide +kernel
theorem d_Mo_residual_2 : decode (mcd M_Mo_residual) 2 = .ok (.putfield 117, 3) := by decide +kernel
theorem d_Mo_residual_5 : decode (mcd M_Mo_residual) 5 = .ok (.aload_n 0, 1) := by decide +kernel
theorem d_Mo_residual_6 : decode (mcd M_Mo_residual) 6 = .ok (.iload_n 1, 1) := by decide +kernel
theorem d_Mo_residual_7 : decode (mcd M_Mo_residual) 7 = .ok (.invokevirtual 281, 3) := by decide +kernel
theorem d_Mo_residual_10 : decode (mcd M_Mo_residual) 10 = .ok (.ifCond .eq 27, 3) := by decide +kernel
theorem d_Mo_residual_13 : decode (mcd M_Mo_residual) 13 = .ok (.aload_n 0, 1) := by decide +kernel
theorem d_Mo_residual_14 : decode (mcd M_Mo_residual) 14 = .ok (.getfield 35, 3) := by decide +kernel
theorem d_Mo_residual_17 : decode (mcd M_Mo_residual) 17 = .ok (.iload_n 1, 1) := by decide +kernel
theorem d_Mo_residual_18 : decode (mcd M_Mo_residual) 18 = .ok (.iaload, 1) := by decide +kernel
theorem d_Mo_residual_19 : decode (mcd M_Mo_residual) 19 = .ok (.ifCond .eq 18, 3) := by decide +kernel
theorem d_Mo_residual_22 : decode (mcd M_Mo_residual) 22 = .ok (.iload_n 2, 1) := by decide +kernel
theorem d_Mo_residual_23 : decode (mcd M_Mo_residual) 23 = .ok (.iconst (-1), 1) := by decide +kernel
theorem d_Mo_residual_24 : decode (mcd M_Mo_residual) 24 = .ok (.if_icmp .lt 13, 3) := by decide +kernel
theorem d_Mo_residual_27 : decode (mcd M_Mo_residual) 27 = .ok (.iload_n 2, 1) := by decide +kernel
theorem d_Mo_residual_28 : decode (mcd M_Mo_residual) 28 = .ok (.aload_n 0, 1) := by decide +kernel
theorem d_Mo_residual_29 : decode (mcd M_Mo_residual) 29 = .ok (.getfield 77, 3) := by decide +kernel
theorem d_Mo_residual_32 : decode (mcd M_Mo_residual) 32 = .ok (.iload_n 1, 1) := by decide +kernel
theorem d_Mo_residual_33 : decode (mcd M_Mo_residual) 33 = .ok (.iaload, 1) := by decide +kernel
theorem d_Mo_residual_34 : decode (mcd M_Mo_residual) 34 = .ok (.if_icmp .lt 5, 3) := by decide +kernel
theorem d_Mo_residual_37 : decode (mcd M_Mo_residual) 37 = .ok (.iconst (-1), 1) := by decide +kernel
theorem d_Mo_residual_38 : decode (mcd M_Mo_residual) 38 = .ok (.ireturn, 1) := by decide +kernel
theorem d_Mo_residual_39 : decode (mcd M_Mo_residual) 39 = .ok (.iload_n 2, 1) := by decide +kernel
theorem d_Mo_residual_40 : decode (mcd M_Mo_residual) 40 = .ok (.ifCond .ge 12, 3) := by decide +kernel
theorem d_Mo_residual_43 : decode (mcd M_Mo_residual) 43 = .ok (.aload_n 0, 1) := by decide +kernel
theorem d_Mo_residual_44 : decode (mcd M_Mo_residual) 44 = .ok (.getfield 77, 3) := by decide +kernel
theorem d_Mo_residual_47 : decode (mcd M_Mo_residual) 47 = .ok (.iload_n 1, 1) := by decide +kernel
theorem d_Mo_residual_48 : decode (mcd M_Mo_residual) 48 = .ok (.iaload, 1) := by decide +kernel
theorem d_Mo_residual_49 : decode (mcd M_Mo_residual) 49 = .ok (.goto 14, 3) := by decide +kernel
theorem d_Mo_residual_52 : decode (mcd M_Mo_residual) 52 = .ok (.aload_n 0, 1) := by decide +kernel
theorem d_Mo_residual_53 : decode (mcd M_Mo_residual) 53 = .ok (.getfield 74, 3) := by decide +kernel
theorem d_Mo_residual_56 : decode (mcd M_Mo_residual) 56 = .ok (.bipush 100, 2) := by decide +kernel
theorem d_Mo_residual_58 : decode (mcd M_Mo_residual) 58 = .ok (.iload_n 1, 1) := by decide +kernel
theorem d_Mo_residual_59 : decode (mcd M_Mo_residual) 59 = .ok (.imul, 1) := by decide +kernel
theorem d_Mo_residual_60 : decode (mcd M_Mo_residual) 60 = .ok (.iload_n 2, 1) := by decide +kernel
theorem d_Mo_residual_61 : decode (mcd M_Mo_residual) 61 = .ok (.iadd, 1) := by decide +kernel
theorem d_Mo_residual_62 : decode (mcd M_Mo_residual) 62 = .ok (.iaload, 1) := by decide +kernel
theorem d_Mo_residual_63 : decode (mcd M_Mo_residual) 63 = .ok (.ireturn, 1) := by decide +kernel
theorem d_Mo_result_0 : decode (mcd M_Mo_result) 0 = .ok (.aload_n 0, 1) := by decide +kernel
theorem d_Mo_result_1 : decode (mcd M_Mo_result) 1 = .ok (.iconst 0, 1) := by decide +kernel
theorem d_Mo_result_2 : decode (mcd M_Mo_result) 2 = .ok (.putfield 117, 3) := by decide +kernel
theorem d_Mo_result_5 : decode (mcd M_Mo_result) 5 = .ok (.aload_n 0, 1) := by decide +kernel
theorem d_Mo_result_6 : decode (mcd M_Mo_result) 6 = .ok (.getfield 110, 3) := by decide +kernel
theorem d_Mo_result_9 : decode (mcd M_Mo_result) 9 = .ok (.ifCond .ne 16, 3) := by decide +kernel
theorem d_Mo_result_12 : decode (mcd M_Mo_result) 12 = .ok (.iload_n 1, 1) := by decide +kernel
theorem d_Mo_result_13 : decode (mcd M_Mo_result) 13 = .ok (.iconst (-1), 1) := by decide +kernel
theorem d_Mo_result_14 : decode (mcd M_Mo_result) 14 = .ok (.if_icmp .lt 11, 3) := by decide +kernel
theorem d_Mo_result_17 : decode (mcd M_Mo_result) 17 = .ok (.iload_n 1, 1) := by decide +kernel
theorem d_Mo_result_18 : decode (mcd M_Mo_result) 18 = .ok (.aload_n 0, 1) := by decide +kernel
theorem d_Mo_result_19 : decode (mcd M_Mo_result) 19 = .ok (.getfield 292, 3) := by decide +kernel
theorem d_Mo_result_22 : decode (mcd M_Mo_result) 22 = .ok (.if_icmp .lt 5, 3) := by decide +kernel
theorem d_Mo_result_25 : decode (mcd M_Mo_result) 25 = .ok (.iconst (-1), 1) := by decide +kernel
theorem d_Mo_result_26 : decode (mcd M_Mo_result) 26 = .ok (.ireturn, 1) := by decide +kernel
theorem d_Mo_result_27 : decode (mcd M_Mo_result) 27 = .ok (.iload_n 1, 1) := by decide +kernel
theorem d_Mo_result_28 : decode (mcd M_Mo_result) 28 = .ok (.ifCond .ge 10, 3) := by decide +kernel
theorem d_Mo_result_31 : decode (mcd M_Mo_result) 31 = .ok (.aload_n 0, 1) := by decide +kernel
theorem d_Mo_result_32 : decode (mcd M_Mo_result) 32 = .ok (.getfield 292, 3) := by decide +kernel
theorem d_Mo_result_35 : decode (mcd M_Mo_result) 35 = .ok (.goto 9, 3) := by decide +kernel
theorem d_Mo_result_38 : decode (mcd M_Mo_result) 38 = .ok (.aload_n 0, 1) := by decide +kernel
theorem d_Mo_result_39 : decode (mcd M_Mo_result) 39 = .ok (.getfield 114, 3) := by decide +kernel
theorem d_Mo_result_42 : decode (mcd M_Mo_result) 42 = .ok (.iload_n 1, 1) := by decide +kernel
theorem d_Mo_result_43 : decode (mcd M_Mo_result) 43 = .ok (.iaload, 1) := by decide +kernel
theorem d_Mo_result_44 : decode (mcd M_Mo_result) 44 = .ok (.ireturn, 1) := by decide +kernel
theorem d_Mo_rival_0 : decode (mcd M_Mo_rival) 0 = .ok (.aload_n 0, 1) := by decide +kernel
theorem d_Mo_rival_1 : decode (mcd M_Mo_rival) 1 = .ok (.getfield 38, 3) := by decide +kernel
theorem d_Mo_rival_4 : decode (mcd M_Mo_rival) 4 = .ok (.iload_n 1, 1) := by decide +kernel
theorem d_Mo_rival_5 : decode (mcd M_Mo_rival) 5 = .ok (.iaload, 1) := by decide +kernel
theorem d_Mo_rival_6 : decode (mcd M_Mo_rival) 6 = .ok (.istore 4, 2) := by decide +kernel
theorem d_Mo_rival_8 : decode (mcd M_Mo_rival) 8 = .ok (.iload 4, 2) := by decide +kernel
theorem d_Mo_rival_10 : decode (mcd M_Mo_rival) 10 = .ok (.iconst (-1), 1) := by decide +kernel
theorem d_Mo_rival_11 : decode (mcd M_Mo_rival) 11 = .ok (.if_icmp .eq 93, 3) := by decide +kernel
theorem d_Mo_rival_14 : decode (mcd M_Mo_rival) 14 = .ok (.iload_n 2, 1) := by decide +kernel
theorem d_Mo_rival_15 : decode (mcd M_Mo_rival) 15 = .ok (.ifCond .eq 28, 3) := by decide +kernel
theorem d_Mo_rival_18 : decode (mcd M_Mo_rival) 18 = .ok (.aload_n 0, 1) := by decide +kernel
theorem d_Mo_rival_19 : decode (mcd M_Mo_rival) 19 = .ok (.getfield 35, 3) := by decide +kernel
theorem d_Mo_rival_22 : decode (mcd M_Mo_rival) 22 = .ok (.iload 4, 2) := by decide +kernel
theorem d_Mo_rival_24 : decode (mcd M_Mo_rival) 24 = .ok (.iaload, 1) := by decide +kernel
theorem d_Mo_rival_25 : decode (mcd M_Mo_rival) 25 = .ok (.iconst 3, 1) := by decide +kernel
theorem d_Mo_rival_26 : decode (mcd M_Mo_rival) 26 = .ok (.if_icmp .eq 17, 3) := by decide +kernel
theorem d_Mo_rival_29 : decode (mcd M_Mo_rival) 29 = .ok (.aload_n 0, 1) := by decide +kernel
theorem d_Mo_rival_30 : decode (mcd M_Mo_rival) 30 = .ok (.getfield 35, 3) := by decide +kernel
theorem d_Mo_rival_33 : decode (mcd M_Mo_rival) 33 = .ok (.iload 4, 2) := by decide +kernel
theorem d_Mo_rival_35 : decode (mcd M_Mo_rival) 35 = .ok (.iaload, 1) := by decide +kernel
theorem d_Mo_rival_36 : decode (mcd M_Mo_rival) 36 = .ok (.bipush 7, 2) := by decide +kernel
theorem d_Mo_rival_38 : decode (mcd M_Mo_rival) 38 = .ok (.if_icmp .eq 5, 3) := by decide +kernel
theorem d_Mo_rival_41 : decode (mcd M_Mo_rival) 41 = .ok (.iconst (-1), 1) := by decide +kernel
theorem d_Mo_rival_42 : decode (mcd M_Mo_rival) 42 = .ok (.ireturn, 1) := by decide +kernel
theorem d_Mo_rival_43 : decode (mcd M_Mo_rival) 43 = .ok (.aload_n 0, 1) := by decide +kernel
theorem d_Mo_rival_44 : decode (mcd M_Mo_rival) 44 = .ok (.getfield 35, 3) := by decide +kernel
theorem d_Mo_rival_47 : decode (mcd M_Mo_rival) 47 = .ok (.iload 4, 2) := by decide +kernel
theorem d_Mo_rival_49 : decode (mcd M_Mo_rival) 49 = .ok (.iaload, 1) := by decide +kernel
theorem d_Mo_rival_50 : decode (mcd M_Mo_rival) 50 = .ok (.iload_n 2, 1) := by decide +kernel
theorem d_Mo_rival_51 : decode (mcd M_Mo_rival) 51 = .ok (.ifCond .eq 7, 3) := by decide +kernel
theorem d_Mo_rival_54 : decode (mcd M_Mo_rival) 54 = .ok (.iconst 3, 1) := by decide +kernel
theorem d_Mo_rival_55 : decode (mcd M_Mo_rival) 55 = .ok (.goto 4, 3) := by decide +kernel
theorem d_Mo_rival_58 : decode (mcd M_Mo_rival) 58 = .ok (.iconst 4, 1) := by decide +kernel
theorem d_Mo_rival_59 : decode (mcd M_Mo_rival) 59 = .ok (.if_icmp .ne 33, 3) := by decide +kernel
theorem d_Mo_rival_62 : decode (mcd M_Mo_rival) 62 = .ok (.iload_n 3, 1) := by decide +kernel
theorem d_Mo_rival_63 : decode (mcd M_Mo_rival) 63 = .ok (.ifCond .eq 16, 3) := by decide +kernel
theorem d_Mo_rival_66 : decode (mcd M_Mo_rival) 66 = .ok (.aload_n 0, 1) := by decide +kernel
theorem d_Mo_rival_67 : decode (mcd M_Mo_rival) 67 = .ok (.iload 4, 2) := by decide +kernel
theorem d_Mo_rival_69 : decode (mcd M_Mo_rival) 69 = .ok (.iload_n 1, 1) := by decide +kernel
theorem d_Mo_rival_70 : decode (mcd M_Mo_rival) 70 = .ok (.invokevirtual 194, 3) := by decide +kernel
theorem d_Mo_rival_73 : decode (mcd M_Mo_rival) 73 = .ok (.ifCond .eq 19, 3) := by decide +kernel
theorem d_Mo_rival_76 : decode (mcd M_Mo_rival) 76 = .ok (.goto 13, 3) := by decide +kernel
theorem d_Mo_rival_79 : decode (mcd M_Mo_rival) 79 = .ok (.aload_n 0, 1) := by decide +kernel
theorem d_Mo_rival_80 : decode (mcd M_Mo_rival) 80 = .ok (.iload 4, 2) := by decide +kernel
theorem d_Mo_rival_82 : decode (mcd M_Mo_rival) 82 = .ok (.iload_n 1, 1) := by decide +kernel
theorem d_Mo_rival_83 : decode (mcd M_Mo_rival) 83 = .ok (.invokevirtual 198, 3) := by decide +kernel
theorem d_Mo_rival_86 : decode (mcd M_Mo_rival) 86 = .ok (.ifCond .eq 6, 3) := by decide +kernel
theorem d_Mo_rival_89 : decode (mcd M_Mo_rival) 89 = .ok (.iload 4, 2) := by decide +kernel
theorem d_Mo_rival_91 : decode (mcd M_Mo_rival) 91 = .ok (.ireturn, 1) := by decide +kernel
theorem d_Mo_rival_92 : decode (mcd M_Mo_rival) 92 = .ok (.aload_n 0, 1) := by decide +kernel
theorem d_Mo_rival_93 : decode (mcd M_Mo_rival) 93 = .ok (.getfield 38, 3) := by decide +kernel
theorem d_Mo_rival_96 : decode (mcd M_Mo_rival) 96 = .ok (.iload 4, 2) := by decide +kernel
theorem d_Mo_rival_98 : decode (mcd M_Mo_rival) 98 = .ok (.iaload, 1) := by decide +kernel
theorem d_Mo_rival_99 : decode (mcd M_Mo_rival) 99 = .ok (.istore 4, 2) := by decide +kernel
theorem d_Mo_rival_101 : decode (mcd M_Mo_rival) 101 = .ok (.goto (-93), 3) := by decide +kernel
theorem d_Mo_rival_104 : decode (mcd M_Mo_rival) 104 = .ok (.iconst (-1), 1) := by decide +kernel
theorem d_Mo_rival_105 : decode (mcd M_Mo_rival) 105 = .ok (.ireturn, 1) := by decide +kernel
theorem d_Mo_run_0 : decode (mcd M_Mo_run) 0 = .ok (.iload_n 2, 1) := by decide +kernel
theorem d_Mo_run_1 : decode (mcd M_Mo_run) 1 = .ok (.iconst 1, 1) := by decide +kernel
theorem d_Mo_run_2 : decode (mcd M_Mo_run) 2 = .ok (.if_icmp .lt 10, 3) := by decide +kernel
theorem d_Mo_run_5 : decode (mcd M_Mo_run) 5 = .ok (.iload_n 2, 1) := by decide +kernel
theorem d_Mo_run_6 : decode (mcd M_Mo_run) 6 = .ok (.sipush 500, 3) := by decide +kernel
theorem d_Mo_run_9 : decode (mcd M_Mo_run) 9 = .ok (.if_icmp .le 7, 3) := by decide +kernel
theorem d_Mo_run_12 : decode (mcd M_Mo_run) 12 = .ok (.iconst 1, 1) := by decide +kernel
theorem d_Mo_run_13 : decode (mcd M_Mo_run) 13 = .ok (.goto 4, 3) := by decide +kernel
theorem d_Mo_run_16 : decode (mcd M_Mo_run) 16 = .ok (.iconst 0, 1) := by decide +kernel
theorem d_Mo_run_17 : decode (mcd M_Mo_run) 17 = .ok (.istore_n 3, 1) := by decide +kernel
theorem d_Mo_run_18 : decode (mcd M_Mo_run) 18 = .ok (.aload_n 0, 1) := by decide +kernel
theorem d_Mo_run_19 : decode (mcd M_Mo_run) 19 = .ok (.iload_n 3, 1) := by decide +kernel
theorem d_Mo_run_20 : decode (mcd M_Mo_run) 20 = .ok (.iload_n 3, 1) := by decide +kernel
theorem d_Mo_run_21 : decode (mcd M_Mo_run) 21 = .ok (.ifCond .ne 32, 3) := by decide +kernel
theorem d_Mo_run_24 : decode (mcd M_Mo_run) 24 = .ok (.aload_n 0, 1) := by decide +kernel
theorem d_Mo_run_25 : decode (mcd M_Mo_run) 25 = .ok (.getfield 135, 3) := by decide +kernel
theorem d_Mo_run_28 : decode (mcd M_Mo_run) 28 = .ok (.ifCond .eq 21, 3) := by decide +kernel
theorem d_Mo_run_31 : decode (mcd M_Mo_run) 31 = .ok (.iload_n 1, 1) := by decide +kernel
theorem d_Mo_run_32 : decode (mcd M_Mo_run) 32 = .ok (.ifCond .eq 10, 3) := by decide +kernel
theorem d_Mo_run_35 : decode (mcd M_Mo_run) 35 = .ok (.aload_n 0, 1) := by decide +kernel
theorem d_Mo_run_36 : decode (mcd M_Mo_run) 36 = .ok (.getfield 138, 3) := by decide +kernel
theorem d_Mo_run_39 : decode (mcd M_Mo_run) 39 = .ok (.ifCond .eq 10, 3) := by decide +kernel
theorem d_Mo_run_42 : decode (mcd M_Mo_run) 42 = .ok (.aload_n 0, 1) := by decide +kernel
theorem d_Mo_run_43 : decode (mcd M_Mo_run) 43 = .ok (.invokevirtual 284, 3) := by decide +kernel
theorem d_Mo_run_46 : decode (mcd M_Mo_run) 46 = .ok (.ifCond .ne 7, 3) := by decide +kernel
theorem d_Mo_run_49 : decode (mcd M_Mo_run) 49 = .ok (.iconst 1, 1) := by decide +kernel
theorem d_Mo_run_50 : decode (mcd M_Mo_run) 50 = .ok (.goto 4, 3) := by decide +kernel
theorem d_Mo_run_53 : decode (mcd M_Mo_run) 53 = .ok (.iconst 0, 1) := by decide +kernel
theorem d_Mo_run_54 : decode (mcd M_Mo_run) 54 = .ok (.invokevirtual 145, 3) := by decide +kernel
theorem d_Mo_run_57 : decode (mcd M_Mo_run) 57 = .ok (.ifCond .eq 5, 3) := by decide +kernel
theorem d_Mo_run_60 : decode (mcd M_Mo_run) 60 = .ok (.iconst 0, 1) := by decide +kernel
theorem d_Mo_run_61 : decode (mcd M_Mo_run) 61 = .ok (.ireturn, 1) := by decide +kernel
theorem d_Mo_run_62 : decode (mcd M_Mo_run) 62 = .ok (.aload_n 0, 1) := by decide +kernel
theorem d_Mo_run_63 : decode (mcd M_Mo_run) 63 = .ok (.iload_n 1, 1) := by decide +kernel
theorem d_Mo_run_64 : decode (mcd M_Mo_run) 64 = .ok (.invokevirtual 288, 3) := by decide +kernel
theorem d_Mo_run_67 : decode (mcd M_Mo_run) 67 = .ok (.aload_n 0, 1) := by decide +kernel
theorem d_Mo_run_68 : decode (mcd M_Mo_run) 68 = .ok (.iconst 0, 1) := by decide +kernel
theorem d_Mo_run_69 : decode (mcd M_Mo_run) 69 = .ok (.putfield 142, 3) := by decide +kernel
theorem d_Mo_run_72 : decode (mcd M_Mo_run) 72 = .ok (.aload_n 0, 1) := by decide +kernel
theorem d_Mo_run_73 : decode (mcd M_Mo_run) 73 = .ok (.iconst (-1), 1) := by decide +kernel
theorem d_Mo_run_74 : decode (mcd M_Mo_run) 74 = .ok (.putfield 110, 3) := by decide +kernel
theorem d_Mo_run_77 : decode (mcd M_Mo_run) 77 = .ok (.aload_n 0, 1) := by decide +kernel
theorem d_Mo_run_78 : decode (mcd M_Mo_run) 78 = .ok (.getfield 110, 3) := by decide +kernel
theorem d_Mo_run_81 : decode (mcd M_Mo_run) 81 = .ok (.ifCond .ge 108, 3) := by decide +kernel
theorem d_Mo_run_84 : decode (mcd M_Mo_run) 84 = .ok (.aload_n 0, 1) := by decide +kernel
theorem d_Mo_run_85 : decode (mcd M_Mo_run) 85 = .ok (.getfield 157, 3) := by decide +kernel
theorem d_Mo_run_88 : decode (mcd M_Mo_run) 88 = .ok (.sipush 200, 3) := by decide +kernel
theorem d_Mo_run_91 : decode (mcd M_Mo_run) 91 = .ok (.if_icmp .le 7, 3) := by decide +kernel
theorem d_Mo_run_94 : decode (mcd M_Mo_run) 94 = .ok (.iconst (-1), 1) := by decide +kernel
theorem d_Mo_run_95 : decode (mcd M_Mo_run) 95 = .ok (.goto 7, 3) := by decide +kernel
theorem d_Mo_run_98 : decode (mcd M_Mo_run) 98 = .ok (.aload_n 0, 1) := by decide +kernel
theorem d_Mo_run_99 : decode (mcd M_Mo_run) 99 = .ok (.invokevirtual 243, 3) := by decide +kernel
theorem d_Mo_run_102 : decode (mcd M_Mo_run) 102 = .ok (.istore 4, 2) := by decide +kernel
theorem d_Mo_run_104 : decode (mcd M_Mo_run) 104 = .ok (.aload_n 0, 1) := by decide +kernel
theorem d_Mo_run_105 : decode (mcd M_Mo_run) 105 = .ok (.getfield 157, 3) := by decide +kernel
theorem d_Mo_run_108 : decode (mcd M_Mo_run) 108 = .ok (.sipush 200, 3) := by decide +kernel
theorem d_Mo_run_111 : decode (mcd M_Mo_run) 111 = .ok (.if_icmp .le 11, 3) := by decide +kernel
