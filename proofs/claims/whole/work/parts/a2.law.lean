/-! the law's own method -/
def M_Law_law : Mth := (⟨"SuperDriverLaw", "law", "([I)Z"⟩, code, 7, some .boolean, none)
theorem d_Law_law_0 : decode (mcd M_Law_law) 0 = .ok (.new 8, 3) := by decide +kernel
theorem d_Law_law_3 : decode (mcd M_Law_law) 3 = .ok (.dup, 1) := by decide +kernel
theorem d_Law_law_4 : decode (mcd M_Law_law) 4 = .ok (.invokespecial 34, 3) := by decide +kernel
theorem d_Law_law_7 : decode (mcd M_Law_law) 7 = .ok (.astore_n 1, 1) := by decide +kernel
theorem d_Law_law_8 : decode (mcd M_Law_law) 8 = .ok (.new 35, 3) := by decide +kernel
theorem d_Law_law_11 : decode (mcd M_Law_law) 11 = .ok (.dup, 1) := by decide +kernel
theorem d_Law_law_12 : decode (mcd M_Law_law) 12 = .ok (.invokespecial 37, 3) := by decide +kernel
theorem d_Law_law_15 : decode (mcd M_Law_law) 15 = .ok (.astore_n 2, 1) := by decide +kernel
theorem d_Law_law_16 : decode (mcd M_Law_law) 16 = .ok (.iconst 1, 1) := by decide +kernel
theorem d_Law_law_17 : decode (mcd M_Law_law) 17 = .ok (.newarray .long, 2) := by decide +kernel
theorem d_Law_law_19 : decode (mcd M_Law_law) 19 = .ok (.astore_n 3, 1) := by decide +kernel
theorem d_Law_law_20 : decode (mcd M_Law_law) 20 = .ok (.iconst 0, 1) := by decide +kernel
theorem d_Law_law_21 : decode (mcd M_Law_law) 21 = .ok (.istore 4, 2) := by decide +kernel
theorem d_Law_law_23 : decode (mcd M_Law_law) 23 = .ok (.iload 4, 2) := by decide +kernel
theorem d_Law_law_25 : decode (mcd M_Law_law) 25 = .ok (.aload_n 0, 1) := by decide +kernel
theorem d_Law_law_26 : decode (mcd M_Law_law) 26 = .ok (.arraylength, 1) := by decide +kernel
theorem d_Law_law_27 : decode (mcd M_Law_law) 27 = .ok (.iconst 4, 1) := by decide +kernel
theorem d_Law_law_28 : decode (mcd M_Law_law) 28 = .ok (.isub, 1) := by decide +kernel
theorem d_Law_law_29 : decode (mcd M_Law_law) 29 = .ok (.if_icmp .gt 614, 3) := by decide +kernel
theorem d_Law_law_32 : decode (mcd M_Law_law) 32 = .ok (.aload_n 0, 1) := by decide +kernel
theorem d_Law_law_33 : decode (mcd M_Law_law) 33 = .ok (.iload 4, 2) := by decide +kernel
theorem d_Law_law_35 : decode (mcd M_Law_law) 35 = .ok (.iaload, 1) := by decide +kernel
theorem d_Law_law_36 : decode (mcd M_Law_law) 36 = .ok (.bipush 15, 2) := by decide +kernel
theorem d_Law_law_38 : decode (mcd M_Law_law) 38 = .ok (.iand, 1) := by decide +kernel
theorem d_Law_law_39 : decode (mcd M_Law_law) 39 = .ok (.tableswitch 598 0 13 #[69, 126, 137, 148, 224, 272, 296, 321, 365, 402, 439, 476, 560, 585], 69) := by decide +kernel
theorem d_Law_law_108 : decode (mcd M_Law_law) 108 = .ok (.aload_n 1, 1) := by decide +kernel
theorem d_Law_law_109 : decode (mcd M_Law_law) 109 = .ok (.aload_n 0, 1) := by decide +kernel
theorem d_Law_law_110 : decode (mcd M_Law_law) 110 = .ok (.iload 4, 2) := by decide +kernel
theorem d_Law_law_112 : decode (mcd M_Law_law) 112 = .ok (.iconst 1, 1) := by decide +kernel
theorem d_Law_law_113 : decode (mcd M_Law_law) 113 = .ok (.iadd, 1) := by decide +kernel
theorem d_Law_law_114 : decode (mcd M_Law_law) 114 = .ok (.iaload, 1) := by decide +kernel
theorem d_Law_law_115 : decode (mcd M_Law_law) 115 = .ok (.i2l, 1) := by decide +kernel
theorem d_Law_law_116 : decode (mcd M_Law_law) 116 = .ok (.bipush 32, 2) := by decide +kernel
theorem d_Law_law_118 : decode (mcd M_Law_law) 118 = .ok (.lshl, 1) := by decide +kernel
theorem d_Law_law_119 : decode (mcd M_Law_law) 119 = .ok (.aload_n 0, 1) := by decide +kernel
theorem d_Law_law_120 : decode (mcd M_Law_law) 120 = .ok (.iload 4, 2) := by decide +kernel
theorem d_Law_law_122 : decode (mcd M_Law_law) 122 = .ok (.iconst 2, 1) := by decide +kernel
theorem d_Law_law_123 : decode (mcd M_Law_law) 123 = .ok (.iadd, 1) := by decide +kernel
theorem d_Law_law_124 : decode (mcd M_Law_law) 124 = .ok (.iaload, 1) := by decide +kernel
theorem d_Law_law_125 : decode (mcd M_Law_law) 125 = .ok (.i2l, 1) := by decide +kernel
theorem d_Law_law_126 : decode (mcd M_Law_law) 126 = .ok (.ldc2_w 38, 3) := by decide +kernel
theorem d_Law_law_129 : decode (mcd M_Law_law) 129 = .ok (.land, 1) := by decide +kernel
theorem d_Law_law_130 : decode (mcd M_Law_law) 130 = .ok (.lor, 1) := by decide +kernel
theorem d_Law_law_131 : decode (mcd M_Law_law) 131 = .ok (.invokevirtual 40, 3) := by decide +kernel
theorem d_Law_law_134 : decode (mcd M_Law_law) 134 = .ok (.aload_n 2, 1) := by decide +kernel
theorem d_Law_law_135 : decode (mcd M_Law_law) 135 = .ok (.aload_n 0, 1) := by decide +kernel
theorem d_Law_law_136 : decode (mcd M_Law_law) 136 = .ok (.iload 4, 2) := by decide +kernel
theorem d_Law_law_138 : decode (mcd M_Law_law) 138 = .ok (.iconst 1, 1) := by decide +kernel
theorem d_Law_law_139 : decode (mcd M_Law_law) 139 = .ok (.iadd, 1) := by decide +kernel
theorem d_Law_law_140 : decode (mcd M_Law_law) 140 = .ok (.iaload, 1) := by decide +kernel
theorem d_Law_law_141 : decode (mcd M_Law_law) 141 = .ok (.i2l, 1) := by decide +kernel
theorem d_Law_law_142 : decode (mcd M_Law_law) 142 = .ok (.bipush 32, 2) := by decide +kernel
theorem d_Law_law_144 : decode (mcd M_Law_law) 144 = .ok (.lshl, 1) := by decide +kernel
theorem d_Law_law_145 : decode (mcd M_Law_law) 145 = .ok (.aload_n 0, 1) := by decide +kernel
theorem d_Law_law_146 : decode (mcd M_Law_law) 146 = .ok (.iload 4, 2) := by decide +kernel
theorem d_Law_law_148 : decode (mcd M_Law_law) 148 = .ok (.iconst 2, 1) := by decide +kernel
theorem d_Law_law_149 : decode (mcd M_Law_law) 149 = .ok (.iadd, 1) := by decide +kernel
theorem d_Law_law_150 : decode (mcd M_Law_law) 150 = .ok (.iaload, 1) := by decide +kernel
theorem d_Law_law_151 : decode (mcd M_Law_law) 151 = .ok (.i2l, 1) := by decide +kernel
theorem d_Law_law_152 : decode (mcd M_Law_law) 152 = .ok (.ldc2_w 38, 3) := by decide +kernel
theorem d_Law_law_155 : decode (mcd M_Law_law) 155 = .ok (.land, 1) := by decide +kernel
theorem d_Law_law_156 : decode (mcd M_Law_law) 156 = .ok (.lor, 1) := by decide +kernel
theorem d_Law_law_157 : decode (mcd M_Law_law) 157 = .ok (.invokevirtual 44, 3) := by decide +kernel
theorem d_Law_law_160 : decode (mcd M_Law_law) 160 = .ok (.if_icmp .eq 477, 3) := by decide +kernel
theorem d_Law_law_163 : decode (mcd M_Law_law) 163 = .ok (.iconst 0, 1) := by decide +kernel
theorem d_Law_law_164 : decode (mcd M_Law_law) 164 = .ok (.ireturn, 1) := by decide +kernel
theorem d_Law_law_165 : decode (mcd M_Law_law) 165 = .ok (.aload_n 1, 1) := by decide +kernel
theorem d_Law_law_166 : decode (mcd M_Law_law) 166 = .ok (.invokevirtual 45, 3) := by decide +kernel
theorem d_Law_law_169 : decode (mcd M_Law_law) 169 = .ok (.aload_n 2, 1) := by decide +kernel
theorem d_Law_law_170 : decode (mcd M_Law_law) 170 = .ok (.invokevirtual 48, 3) := by decide +kernel
theorem d_Law_law_173 : decode (mcd M_Law_law) 173 = .ok (.goto 464, 3) := by decide +kernel
theorem d_Law_law_176 : decode (mcd M_Law_law) 176 = .ok (.aload_n 1, 1) := by decide +kernel
theorem d_Law_law_177 : decode (mcd M_Law_law) 177 = .ok (.invokevirtual 49, 3) := by decide +kernel
theorem d_Law_law_180 : decode (mcd M_Law_law) 180 = .ok (.aload_n 2, 1) := by decide +kernel
theorem d_Law_law_181 : decode (mcd M_Law_law) 181 = .ok (.invokevirtual 52, 3) := by decide +kernel
theorem d_Law_law_184 : decode (mcd M_Law_law) 184 = .ok (.goto 453, 3) := by decide +kernel
theorem d_Law_law_187 : decode (mcd M_Law_law) 187 = .ok (.aload_n 1, 1) := by decide +kernel
theorem d_Law_law_188 : decode (mcd M_Law_law) 188 = .ok (.aload_n 0, 1) := by decide +kernel
theorem d_Law_law_189 : decode (mcd M_Law_law) 189 = .ok (.iload 4, 2) := by decide +kernel
theorem d_Law_law_191 : decode (mcd M_Law_law) 191 = .ok (.iconst 1, 1) := by decide +kernel
theorem d_Law_law_192 : decode (mcd M_Law_law) 192 = .ok (.iadd, 1) := by decide +kernel
theorem d_Law_law_193 : decode (mcd M_Law_law) 193 = .ok (.iaload, 1) := by decide +kernel
theorem d_Law_law_194 : decode (mcd M_Law_law) 194 = .ok (.aload_n 0, 1) := by decide +kernel
theorem d_Law_law_195 : decode (mcd M_Law_law) 195 = .ok (.iload 4, 2) := by decide +kernel
theorem d_Law_law_197 : decode (mcd M_Law_law) 197 = .ok (.iconst 2, 1) := by decide +kernel
theorem d_Law_law_198 : decode (mcd M_Law_law) 198 = .ok (.iadd, 1) := by decide +kernel
theorem d_Law_law_199 : decode (mcd M_Law_law) 199 = .ok (.iaload, 1) := by decide +kernel
theorem d_Law_law_200 : decode (mcd M_Law_law) 200 = .ok (.aload_n 0, 1) := by decide +kernel
theorem d_Law_law_201 : decode (mcd M_Law_law) 201 = .ok (.iload 4, 2) := by decide +kernel
theorem d_Law_law_203 : decode (mcd M_Law_law) 203 = .ok (.iconst 3, 1) := by decide +kernel
theorem d_Law_law_204 : decode (mcd M_Law_law) 204 = .ok (.iadd, 1) := by decide +kernel
theorem d_Law_law_205 : decode (mcd M_Law_law) 205 = .ok (.iaload, 1) := by decide +kernel
theorem d_Law_law_206 : decode (mcd M_Law_law) 206 = .ok (.ifCond .eq 7, 3) := by decide +kernel
theorem d_Law_law_209 : decode (mcd M_Law_law) 209 = .ok (.iconst 1, 1) := by decide +kernel
theorem d_Law_law_210 : decode (mcd M_Law_law) 210 = .ok (.goto 4, 3) := by decide +kernel
theorem d_Law_law_213 : decode (mcd M_Law_law) 213 = .ok (.iconst 0, 1) := by decide +kernel
theorem d_Law_law_214 : decode (mcd M_Law_law) 214 = .ok (.invokestatic 53, 3) := by decide +kernel
theorem d_Law_law_217 : decode (mcd M_Law_law) 217 = .ok (.istore 5, 2) := by decide +kernel
theorem d_Law_law_219 : decode (mcd M_Law_law) 219 = .ok (.aload_n 2, 1) := by decide +kernel
theorem d_Law_law_220 : decode (mcd M_Law_law) 220 = .ok (.aload_n 0, 1) := by decide +kernel
theorem d_Law_law_221 : decode (mcd M_Law_law) 221 = .ok (.iload 4, 2) := by decide +kernel
theorem d_Law_law_223 : decode (mcd M_Law_law) 223 = .ok (.iconst 1, 1) := by decide +kernel
theorem d_Law_law_224 : decode (mcd M_Law_law) 224 = .ok (.iadd, 1) := by decide +kernel
theorem d_Law_law_225 : decode (mcd M_Law_law) 225 = .ok (.iaload, 1) := by decide +kernel
theorem d_Law_law_226 : decode (mcd M_Law_law) 226 = .ok (.aload_n 0, 1) := by decide +kernel
theorem d_Law_law_227 : decode (mcd M_Law_law) 227 = .ok (.iload 4, 2) := by decide +kernel
theorem d_Law_law_229 : decode (mcd M_Law_law) 229 = .ok (.iconst 2, 1) := by decide +kernel
theorem d_Law_law_230 : decode (mcd M_Law_law) 230 = .ok (.iadd, 1) := by decide +kernel
theorem d_Law_law_231 : decode (mcd M_Law_law) 231 = .ok (.iaload, 1) := by decide +kernel
theorem d_Law_law_232 : decode (mcd M_Law_law) 232 = .ok (.aload_n 0, 1) := by decide +kernel
theorem d_Law_law_233 : decode (mcd M_Law_law) 233 = .ok (.iload 4, 2) := by decide +kernel
theorem d_Law_law_235 : decode (mcd M_Law_law) 235 = .ok (.iconst 3, 1) := by decide +kernel
theorem d_Law_law_236 : decode (mcd M_Law_law) 236 = .ok (.iadd, 1) := by decide +kernel
theorem d_Law_law_237 : decode (mcd M_Law_law) 237 = .ok (.iaload, 1) := by decide +kernel
theorem d_Law_law_238 : decode (mcd M_Law_law) 238 = .ok (.ifCond .eq 7, 3) := by decide +kernel
theorem d_Law_law_241 : decode (mcd M_Law_law) 241 = .ok (.iconst 1, 1) := by decide +kernel
theorem d_Law_law_242 : decode (mcd M_Law_law) 242 = .ok (.goto 4, 3) := by decide +kernel
theorem d_Law_law_245 : decode (mcd M_Law_law) 245 = .ok (.iconst 0, 1) := by decide +kernel
theorem d_Law_law_246 : decode (mcd M_Law_law) 246 = .ok (.invokevirtual 58, 3) := by decide +kernel
theorem d_Law_law_249 : decode (mcd M_Law_law) 249 = .ok (.aload_n 2, 1) := by decide +kernel
theorem d_Law_law_250 : decode (mcd M_Law_law) 250 = .ok (.invokevirtual 59, 3) := by decide +kernel
theorem d_Law_law_253 : decode (mcd M_Law_law) 253 = .ok (.iload 5, 2) := by decide +kernel
theorem d_Law_law_255 : decode (mcd M_Law_law) 255 = .ok (.if_icmp .eq 5, 3) := by decide +kernel
theorem d_Law_law_258 : decode (mcd M_Law_law) 258 = .ok (.iconst 0, 1) := by decide +kernel
theorem d_Law_law_259 : decode (mcd M_Law_law) 259 = .ok (.ireturn, 1) := by decide +kernel
theorem d_Law_law_260 : decode (mcd M_Law_law) 260 = .ok (.goto 377, 3) := by decide +kernel
theorem d_Law_law_263 : decode (mcd M_Law_law) 263 = .ok (.aload_n 1, 1) := by decide +kernel
theorem d_Law_law_264 : decode (mcd M_Law_law) 264 = .ok (.aload_n 0, 1) := by decide +kernel
theorem d_Law_law_265 : decode (mcd M_Law_law) 265 = .ok (.iload 4, 2) := by decide +kernel
theorem d_Law_law_267 : decode (mcd M_Law_law) 267 = .ok (.iconst 1, 1) := by decide +kernel
theorem d_Law_law_268 : decode (mcd M_Law_law) 268 = .ok (.iadd, 1) := by decide +kernel
theorem d_Law_law_269 : decode (mcd M_Law_law) 269 = .ok (.iaload, 1) := by decide +kernel
theorem d_Law_law_270 : decode (mcd M_Law_law) 270 = .ok (.aload_n 0, 1) := by decide +kernel
theorem d_Law_law_271 : decode (mcd M_Law_law) 271 = .ok (.iload 4, 2) := by decide +kernel
theorem d_Law_law_273 : decode (mcd M_Law_law) 273 = .ok (.iconst 2, 1) := by decide +kernel
theorem d_Law_law_274 : decode (mcd M_Law_law) 274 = .ok (.iadd, 1) := by decide +kernel
theorem d_Law_law_275 : decode (mcd M_Law_law) 275 = .ok (.iaload, 1) := by decide +kernel
theorem d_Law_law_276 : decode (mcd M_Law_law) 276 = .ok (.invokestatic 62, 3) := by decide +kernel
theorem d_Law_law_279 : decode (mcd M_Law_law) 279 = .ok (.istore 5, 2) := by decide +kernel
theorem d_Law_law_281 : decode (mcd M_Law_law) 281 = .ok (.aload_n 2, 1) := by decide +kernel
theorem d_Law_law_282 : decode (mcd M_Law_law) 282 = .ok (.aload_n 0, 1) := by decide +kernel
theorem d_Law_law_283 : decode (mcd M_Law_law) 283 = .ok (.iload 4, 2) := by decide +kernel
theorem d_Law_law_285 : decode (mcd M_Law_law) 285 = .ok (.iconst 1, 1) := by decide +kernel
theorem d_Law_law_286 : decode (mcd M_Law_law) 286 = .ok (.iadd, 1) := by decide +kernel
theorem d_Law_law_287 : decode (mcd M_Law_law) 287 = .ok (.iaload, 1) := by decide +kernel
theorem d_Law_law_288 : decode (mcd M_Law_law) 288 = .ok (.aload_n 0, 1) := by decide +kernel
theorem d_Law_law_289 : decode (mcd M_Law_law) 289 = .ok (.iload 4, 2) := by decide +kernel
theorem d_Law_law_291 : decode (mcd M_Law_law) 291 = .ok (.iconst 2, 1) := by decide +kernel
theorem d_Law_law_292 : decode (mcd M_Law_law) 292 = .ok (.iadd, 1) := by decide +kernel
theorem d_Law_law_293 : decode (mcd M_Law_law) 293 = .ok (.iaload, 1) := by decide +kernel
theorem d_Law_law_294 : decode (mcd M_Law_law) 294 = .ok (.invokevirtual 65, 3) := by decide +kernel
theorem d_Law_law_297 : decode (mcd M_Law_law) 297 = .ok (.aload_n 2, 1) := by decide +kernel
theorem d_Law_law_298 : decode (mcd M_Law_law) 298 = .ok (.invokevirtual 59, 3) := by decide +kernel
theorem d_Law_law_301 : decode (mcd M_Law_law) 301 = .ok (.iload 5, 2) := by decide +kernel
theorem d_Law_law_303 : decode (mcd M_Law_law) 303 = .ok (.if_icmp .eq 5, 3) := by decide +kernel
theorem d_Law_law_306 : decode (mcd M_Law_law) 306 = .ok (.iconst 0, 1) := by decide +kernel
theorem d_Law_law_307 : decode (mcd M_Law_law) 307 = .ok (.ireturn, 1) := by decide +kernel
theorem d_Law_law_308 : decode (mcd M_Law_law) 308 = .ok (.goto 329, 3) := by decide +kernel
theorem d_Law_law_311 : decode (mcd M_Law_law) 311 = .ok (.aload_n 1, 1) := by decide +kernel
theorem d_Law_law_312 : decode (mcd M_Law_law) 312 = .ok (.invokestatic 66, 3) := by decide +kernel
theorem d_Law_law_315 : decode (mcd M_Law_law) 315 = .ok (.istore 5, 2) := by decide +kernel
theorem d_Law_law_317 : decode (mcd M_Law_law) 317 = .ok (.aload_n 2, 1) := by decide +kernel
theorem d_Law_law_318 : decode (mcd M_Law_law) 318 = .ok (.invokevirtual 69, 3) := by decide +kernel
theorem d_Law_law_321 : decode (mcd M_Law_law) 321 = .ok (.aload_n 2, 1) := by decide +kernel
theorem d_Law_law_322 : decode (mcd M_Law_law) 322 = .ok (.invokevirtual 59, 3) := by decide +kernel
theorem d_Law_law_325 : decode (mcd M_Law_law) 325 = .ok (.iload 5, 2) := by decide +kernel
theorem d_Law_law_327 : decode (mcd M_Law_law) 327 = .ok (.if_icmp .eq 5, 3) := by decide +kernel
theorem d_Law_law_330 : decode (mcd M_Law_law) 330 = .ok (.iconst 0, 1) := by decide +kernel
theorem d_Law_law_331 : decode (mcd M_Law_law) 331 = .ok (.ireturn, 1) := by decide +kernel
theorem d_Law_law_332 : decode (mcd M_Law_law) 332 = .ok (.goto 305, 3) := by decide +kernel
theorem d_Law_law_335 : decode (mcd M_Law_law) 335 = .ok (.aload_n 1, 1) := by decide +kernel
theorem d_Law_law_336 : decode (mcd M_Law_law) 336 = .ok (.aload_n 0, 1) := by decide +kernel
theorem d_Law_law_337 : decode (mcd M_Law_law) 337 = .ok (.iload 4, 2) := by decide +kernel
theorem d_Law_law_339 : decode (mcd M_Law_law) 339 = .ok (.iconst 1, 1) := by decide +kernel
theorem d_Law_law_340 : decode (mcd M_Law_law) 340 = .ok (.iadd, 1) := by decide +kernel
theorem d_Law_law_341 : decode (mcd M_Law_law) 341 = .ok (.iaload, 1) := by decide +kernel
theorem d_Law_law_342 : decode (mcd M_Law_law) 342 = .ok (.invokevirtual 70, 3) := by decide +kernel
theorem d_Law_law_345 : decode (mcd M_Law_law) 345 = .ok (.aload_n 2, 1) := by decide +kernel
theorem d_Law_law_346 : decode (mcd M_Law_law) 346 = .ok (.aload_n 0, 1) := by decide +kernel
theorem d_Law_law_347 : decode (mcd M_Law_law) 347 = .ok (.iload 4, 2) := by decide +kernel
theorem d_Law_law_349 : decode (mcd M_Law_law) 349 = .ok (.iconst 1, 1) := by decide +kernel
theorem d_Law_law_350 : decode (mcd M_Law_law) 350 = .ok (.iadd, 1) := by decide +kernel
theorem d_Law_law_351 : decode (mcd M_Law_law) 351 = .ok (.iaload, 1) := by decide +kernel
theorem d_Law_law_352 : decode (mcd M_Law_law) 352 = .ok (.invokevirtual 74, 3) := by decide +kernel
theorem d_Law_law_355 : decode (mcd M_Law_law) 355 = .ok (.if_icmp .eq 282, 3) := by decide +kernel
theorem d_Law_law_358 : decode (mcd M_Law_law) 358 = .ok (.iconst 0, 1) := by decide +kernel
theorem d_Law_law_359 : decode (mcd M_Law_law) 359 = .ok (.ireturn, 1) := by decide +kernel
theorem d_Law_law_360 : decode (mcd M_Law_law) 360 = .ok (.aload_n 1, 1) := by decide +kernel
theorem d_Law_law_361 : decode (mcd M_Law_law) 361 = .ok (.aload_n 3, 1) := by decide +kernel
theorem d_Law_law_362 : decode (mcd M_Law_law) 362 = .ok (.invokestatic 75, 3) := by decide +kernel
theorem d_Law_law_365 : decode (mcd M_Law_law) 365 = .ok (.istore 5, 2) := by decide +kernel
theorem d_Law_law_367 : decode (mcd M_Law_law) 367 = .ok (.aload_n 2, 1) := by decide +kernel
theorem d_Law_law_368 : decode (mcd M_Law_law) 368 = .ok (.invokevirtual 78, 3) := by decide +kernel
theorem d_Law_law_371 : decode (mcd M_Law_law) 371 = .ok (.istore 6, 2) := by decide +kernel
theorem d_Law_law_373 : decode (mcd M_Law_law) 373 = .ok (.aload_n 2, 1) := by decide +kernel
theorem d_Law_law_374 : decode (mcd M_Law_law) 374 = .ok (.invokevirtual 59, 3) := by decide +kernel
theorem d_Law_law_377 : decode (mcd M_Law_law) 377 = .ok (.iload 5, 2) := by decide +kernel
theorem d_Law_law_379 : decode (mcd M_Law_law) 379 = .ok (.if_icmp .eq 5, 3) := by decide +kernel
theorem d_Law_law_382 : decode (mcd M_Law_law) 382 = .ok (.iconst 0, 1) := by decide +kernel
theorem d_Law_law_383 : decode (mcd M_Law_law) 383 = .ok (.ireturn, 1) := by decide +kernel
theorem d_Law_law_384 : decode (mcd M_Law_law) 384 = .ok (.iload 5, 2) := by decide +kernel
theorem d_Law_law_386 : decode (mcd M_Law_law) 386 = .ok (.ifCond .ne 15, 3) := by decide +kernel
theorem d_Law_law_389 : decode (mcd M_Law_law) 389 = .ok (.aload_n 3, 1) := by decide +kernel
theorem d_Law_law_390 : decode (mcd M_Law_law) 390 = .ok (.iconst 0, 1) := by decide +kernel
theorem d_Law_law_391 : decode (mcd M_Law_law) 391 = .ok (.laload, 1) := by decide +kernel
theorem d_Law_law_392 : decode (mcd M_Law_law) 392 = .ok (.iload 6, 2) := by decide +kernel
theorem d_Law_law_394 : decode (mcd M_Law_law) 394 = .ok (.i2l, 1) := by decide +kernel
theorem d_Law_law_395 : decode (mcd M_Law_law) 395 = .ok (.lcmp, 1) := by decide +kernel
theorem d_Law_law_396 : decode (mcd M_Law_law) 396 = .ok (.ifCond .eq 5, 3) := by decide +kernel
theorem d_Law_law_399 : decode (mcd M_Law_law) 399 = .ok (.iconst 0, 1) := by decide +kernel
theorem d_Law_law_400 : decode (mcd M_Law_law) 400 = .ok (.ireturn, 1) := by decide +kernel
theorem d_Law_law_401 : decode (mcd M_Law_law) 401 = .ok (.goto 236, 3) := by decide +kernel
theorem d_Law_law_404 : decode (mcd M_Law_law) 404 = .ok (.aload_n 1, 1) := by decide +kernel
theorem d_Law_law_405 : decode (mcd M_Law_law) 405 = .ok (.aload_n 0, 1) := by decide +kernel
theorem d_Law_law_406 : decode (mcd M_Law_law) 406 = .ok (.iload 4, 2) := by decide +kernel
theorem d_Law_law_408 : decode (mcd M_Law_law) 408 = .ok (.iconst 1, 1) := by decide +kernel
theorem d_Law_law_409 : decode (mcd M_Law_law) 409 = .ok (.iadd, 1) := by decide +kernel
theorem d_Law_law_410 : decode (mcd M_Law_law) 410 = .ok (.iaload, 1) := by decide +kernel
theorem d_Law_law_411 : decode (mcd M_Law_law) 411 = .ok (.aload_n 0, 1) := by decide +kernel
theorem d_Law_law_412 : decode (mcd M_Law_law) 412 = .ok (.iload 4, 2) := by decide +kernel
theorem d_Law_law_414 : decode (mcd M_Law_law) 414 = .ok (.iconst 2, 1) := by decide +kernel
theorem d_Law_law_415 : decode (mcd M_Law_law) 415 = .ok (.iadd, 1) := by decide +kernel
theorem d_Law_law_416 : decode (mcd M_Law_law) 416 = .ok (.iaload, 1) := by decide +kernel
theorem d_Law_law_417 : decode (mcd M_Law_law) 417 = .ok (.invokevirtual 79, 3) := by decide +kernel
theorem d_Law_law_420 : decode (mcd M_Law_law) 420 = .ok (.aload_n 2, 1) := by decide +kernel
theorem d_Law_law_421 : decode (mcd M_Law_law) 421 = .ok (.aload_n 0, 1) := by decide +kernel
theorem d_Law_law_422 : decode (mcd M_Law_law) 422 = .ok (.iload 4, 2) := by decide +kernel
theorem d_Law_law_424 : decode (mcd M_Law_law) 424 = .ok (.iconst 1, 1) := by decide +kernel
theorem d_Law_law_425 : decode (mcd M_Law_law) 425 = .ok (.iadd, 1) := by decide +kernel
theorem d_Law_law_426 : decode (mcd M_Law_law) 426 = .ok (.iaload, 1) := by decide +kernel
theorem d_Law_law_427 : decode (mcd M_Law_law) 427 = .ok (.aload_n 0, 1) := by decide +kernel
theorem d_Law_law_428 : decode (mcd M_Law_law) 428 = .ok (.iload 4, 2) := by decide +kernel
theorem d_Law_law_430 : decode (mcd M_Law_law) 430 = .ok (.iconst 2, 1) := by decide +kernel
theorem d_Law_law_431 : decode (mcd M_Law_law) 431 = .ok (.iadd, 1) := by decide +kernel
theorem d_Law_law_432 : decode (mcd M_Law_law) 432 = .ok (.iaload, 1) := by decide +kernel
theorem d_Law_law_433 : decode (mcd M_Law_law) 433 = .ok (.invokevirtual 83, 3) := by decide +kernel
theorem d_Law_law_436 : decode (mcd M_Law_law) 436 = .ok (.if_icmp .eq 201, 3) := by decide +kernel
theorem d_Law_law_439 : decode (mcd M_Law_law) 439 = .ok (.iconst 0, 1) := by decide +kernel
theorem d_Law_law_440 : decode (mcd M_Law_law) 440 = .ok (.ireturn, 1) := by decide +kernel
theorem d_Law_law_441 : decode (mcd M_Law_law) 441 = .ok (.aload_n 1, 1) := by decide +kernel
theorem d_Law_law_442 : decode (mcd M_Law_law) 442 = .ok (.aload_n 0, 1) := by decide +kernel
theorem d_Law_law_443 : decode (mcd M_Law_law) 443 = .ok (.iload 4, 2) := by decide +kernel
theorem d_Law_law_445 : decode (mcd M_Law_law) 445 = .ok (.iconst 1, 1) := by decide +kernel
theorem d_Law_law_446 : decode (mcd M_Law_law) 446 = .ok (.iadd, 1) := by decide +kernel
theorem d_Law_law_447 : decode (mcd M_Law_law) 447 = .ok (.iaload, 1) := by decide +kernel
theorem d_Law_law_448 : decode (mcd M_Law_law) 448 = .ok (.aload_n 0, 1) := by decide +kernel
theorem d_Law_law_449 : decode (mcd M_Law_law) 449 = .ok (.iload 4, 2) := by decide +kernel
theorem d_Law_law_451 : decode (mcd M_Law_law) 451 = .ok (.iconst 2, 1) := by decide +kernel
theorem d_Law_law_452 : decode (mcd M_Law_law) 452 = .ok (.iadd, 1) := by decide +kernel
theorem d_Law_law_453 : decode (mcd M_Law_law) 453 = .ok (.iaload, 1) := by decide +kernel
theorem d_Law_law_454 : decode (mcd M_Law_law) 454 = .ok (.invokevirtual 84, 3) := by decide +kernel
theorem d_Law_law_457 : decode (mcd M_Law_law) 457 = .ok (.aload_n 2, 1) := by decide +kernel
theorem d_Law_law_458 : decode (mcd M_Law_law) 458 = .ok (.aload_n 0, 1) := by decide +kernel
theorem d_Law_law_459 : decode (mcd M_Law_law) 459 = .ok (.iload 4, 2) := by decide +kernel
theorem d_Law_law_461 : decode (mcd M_Law_law) 461 = .ok (.iconst 1, 1) := by decide +kernel
theorem d_Law_law_462 : decode (mcd M_Law_law) 462 = .ok (.iadd, 1) := by decide +kernel
theorem d_Law_law_463 : decode (mcd M_Law_law) 463 = .ok (.iaload, 1) := by decide +kernel
theorem d_Law_law_464 : decode (mcd M_Law_law) 464 = .ok (.aload_n 0, 1) := by decide +kernel
theorem d_Law_law_465 : decode (mcd M_Law_law) 465 = .ok (.iload 4, 2) := by decide +kernel
theorem d_Law_law_467 : decode (mcd M_Law_law) 467 = .ok (.iconst 2, 1) := by decide +kernel
theorem d_Law_law_468 : decode (mcd M_Law_law) 468 = .ok (.iadd, 1) := by decide +kernel
theorem d_Law_law_469 : decode (mcd M_Law_law) 469 = .ok (.iaload, 1) := by decide +kernel
theorem d_Law_law_470 : decode (mcd M_Law_law) 470 = .ok (.invokevirtual 87, 3) := by decide +kernel
theorem d_Law_law_473 : decode (mcd M_Law_law) 473 = .ok (.if_icmp .eq 164, 3) := by decide +kernel
theorem d_Law_law_476 : decode (mcd M_Law_law) 476 = .ok (.iconst 0, 1) := by decide +kernel
theorem d_Law_law_477 : decode (mcd M_Law_law) 477 = .ok (.ireturn, 1) := by decide +kernel
theorem d_Law_law_478 : decode (mcd M_Law_law) 478 = .ok (.aload_n 1, 1) := by decide +kernel
theorem d_Law_law_479 : decode (mcd M_Law_law) 479 = .ok (.aload_n 0, 1) := by decide +kernel
theorem d_Law_law_480 : decode (mcd M_Law_law) 480 = .ok (.iload 4, 2) := by decide +kernel
theorem d_Law_law_482 : decode (mcd M_Law_law) 482 = .ok (.iconst 1, 1) := by decide +kernel
theorem d_Law_law_483 : decode (mcd M_Law_law) 483 = .ok (.iadd, 1) := by decide +kernel
theorem d_Law_law_484 : decode (mcd M_Law_law) 484 = .ok (.iaload, 1) := by decide +kernel
theorem d_Law_law_485 : decode (mcd M_Law_law) 485 = .ok (.aload_n 0, 1) := by decide +kernel
theorem d_Law_law_486 : decode (mcd M_Law_law) 486 = .ok (.iload 4, 2) := by decide +kernel
theorem d_Law_law_488 : decode (mcd M_Law_law) 488 = .ok (.iconst 2, 1) := by decide +kernel
theorem d_Law_law_489 : decode (mcd M_Law_law) 489 = .ok (.iadd, 1) := by decide +kernel
theorem d_Law_law_490 : decode (mcd M_Law_law) 490 = .ok (.iaload, 1) := by decide +kernel
theorem d_Law_law_491 : decode (mcd M_Law_law) 491 = .ok (.invokevirtual 88, 3) := by decide +kernel
theorem d_Law_law_494 : decode (mcd M_Law_law) 494 = .ok (.aload_n 2, 1) := by decide +kernel
theorem d_Law_law_495 : decode (mcd M_Law_law) 495 = .ok (.aload_n 0, 1) := by decide +kernel
theorem d_Law_law_496 : decode (mcd M_Law_law) 496 = .ok (.iload 4, 2) := by decide +kernel
theorem d_Law_law_498 : decode (mcd M_Law_law) 498 = .ok (.iconst 1, 1) := by decide +kernel
theorem d_Law_law_499 : decode (mcd M_Law_law) 499 = .ok (.iadd, 1) := by decide +kernel
theorem d_Law_law_500 : decode (mcd M_Law_law) 500 = .ok (.iaload, 1) := by decide +kernel
theorem d_Law_law_501 : decode (mcd M_Law_law) 501 = .ok (.aload_n 0, 1) := by decide +kernel
theorem d_Law_law_502 : decode (mcd M_Law_law) 502 = .ok (.iload 4, 2) := by decide +kernel
theorem d_Law_law_504 : decode (mcd M_Law_law) 504 = .ok (.iconst 2, 1) := by decide +kernel
theorem d_Law_law_505 : decode (mcd M_Law_law) 505 = .ok (.iadd, 1) := by decide +kernel
theorem d_Law_law_506 : decode (mcd M_Law_law) 506 = .ok (.iaload, 1) := by decide +kernel
theorem d_Law_law_507 : decode (mcd M_Law_law) 507 = .ok (.invokevirtual 91, 3) := by decide +kernel
theorem d_Law_law_510 : decode (mcd M_Law_law) 510 = .ok (.if_icmp .eq 127, 3) := by decide +kernel
theorem d_Law_law_513 : decode (mcd M_Law_law) 513 = .ok (.iconst 0, 1) := by decide +kernel
theorem d_Law_law_514 : decode (mcd M_Law_law) 514 = .ok (.ireturn, 1) := by decide +kernel
theorem d_Law_law_515 : decode (mcd M_Law_law) 515 = .ok (.aload_n 1, 1) := by decide +kernel
theorem d_Law_law_516 : decode (mcd M_Law_law) 516 = .ok (.aload_n 0, 1) := by decide +kernel
theorem d_Law_law_517 : decode (mcd M_Law_law) 517 = .ok (.iload 4, 2) := by decide +kernel
theorem d_Law_law_519 : decode (mcd M_Law_law) 519 = .ok (.iconst 1, 1) := by decide +kernel
theorem d_Law_law_520 : decode (mcd M_Law_law) 520 = .ok (.iadd, 1) := by decide +kernel
theorem d_Law_law_521 : decode (mcd M_Law_law) 521 = .ok (.iaload, 1) := by decide +kernel
theorem d_Law_law_522 : decode (mcd M_Law_law) 522 = .ok (.ifCond .eq 7, 3) := by decide +kernel
theorem d_Law_law_525 : decode (mcd M_Law_law) 525 = .ok (.iconst 1, 1) := by decide +kernel
theorem d_Law_law_526 : decode (mcd M_Law_law) 526 = .ok (.goto 4, 3) := by decide +kernel
theorem d_Law_law_529 : decode (mcd M_Law_law) 529 = .ok (.iconst 0, 1) := by decide +kernel
theorem d_Law_law_530 : decode (mcd M_Law_law) 530 = .ok (.aload_n 0, 1) := by decide +kernel
theorem d_Law_law_531 : decode (mcd M_Law_law) 531 = .ok (.iload 4, 2) := by decide +kernel
theorem d_Law_law_533 : decode (mcd M_Law_law) 533 = .ok (.iconst 2, 1) := by decide +kernel
theorem d_Law_law_534 : decode (mcd M_Law_law) 534 = .ok (.iadd, 1) := by decide +kernel
theorem d_Law_law_535 : decode (mcd M_Law_law) 535 = .ok (.iaload, 1) := by decide +kernel
theorem d_Law_law_536 : decode (mcd M_Law_law) 536 = .ok (.aload_n 3, 1) := by decide +kernel
theorem d_Law_law_537 : decode (mcd M_Law_law) 537 = .ok (.invokestatic 92, 3) := by decide +kernel
theorem d_Law_law_540 : decode (mcd M_Law_law) 540 = .ok (.istore 5, 2) := by decide +kernel
theorem d_Law_law_542 : decode (mcd M_Law_law) 542 = .ok (.aload_n 2, 1) := by decide +kernel
theorem d_Law_law_543 : decode (mcd M_Law_law) 543 = .ok (.aload_n 0, 1) := by decide +kernel
theorem d_Law_law_544 : decode (mcd M_Law_law) 544 = .ok (.iload 4, 2) := by decide +kernel
theorem d_Law_law_546 : decode (mcd M_Law_law) 546 = .ok (.iconst 1, 1) := by decide +kernel
theorem d_Law_law_547 : decode (mcd M_Law_law) 547 = .ok (.iadd, 1) := by decide +kernel
theorem d_Law_law_548 : decode (mcd M_Law_law) 548 = .ok (.iaload, 1) := by decide +kernel
theorem d_Law_law_549 : decode (mcd M_Law_law) 549 = .ok (.ifCond .eq 7, 3) := by decide +kernel
theorem d_Law_law_552 : decode (mcd M_Law_law) 552 = .ok (.iconst 1, 1) := by decide +kernel
theorem d_Law_law_553 : decode (mcd M_Law_law) 553 = .ok (.goto 4, 3) := by decide +kernel
theorem d_Law_law_556 : decode (mcd M_Law_law) 556 = .ok (.iconst 0, 1) := by decide +kernel
theorem d_Law_law_557 : decode (mcd M_Law_law) 557 = .ok (.aload_n 0, 1) := by decide +kernel
theorem d_Law_law_558 : decode (mcd M_Law_law) 558 = .ok (.iload 4, 2) := by decide +kernel
theorem d_Law_law_560 : decode (mcd M_Law_law) 560 = .ok (.iconst 2, 1) := by decide +kernel
theorem d_Law_law_561 : decode (mcd M_Law_law) 561 = .ok (.iadd, 1) := by decide +kernel
theorem d_Law_law_562 : decode (mcd M_Law_law) 562 = .ok (.iaload, 1) := by decide +kernel
theorem d_Law_law_563 : decode (mcd M_Law_law) 563 = .ok (.invokevirtual 95, 3) := by decide +kernel
theorem d_Law_law_566 : decode (mcd M_Law_law) 566 = .ok (.istore 6, 2) := by decide +kernel
theorem d_Law_law_568 : decode (mcd M_Law_law) 568 = .ok (.aload_n 2, 1) := by decide +kernel
theorem d_Law_law_569 : decode (mcd M_Law_law) 569 = .ok (.invokevirtual 59, 3) := by decide +kernel
theorem d_Law_law_572 : decode (mcd M_Law_law) 572 = .ok (.iload 5, 2) := by decide +kernel
theorem d_Law_law_574 : decode (mcd M_Law_law) 574 = .ok (.if_icmp .eq 5, 3) := by decide +kernel
theorem d_Law_law_577 : decode (mcd M_Law_law) 577 = .ok (.iconst 0, 1) := by decide +kernel
theorem d_Law_law_578 : decode (mcd M_Law_law) 578 = .ok (.ireturn, 1) := by decide +kernel
theorem d_Law_law_579 : decode (mcd M_Law_law) 579 = .ok (.iload 5, 2) := by decide +kernel
theorem d_Law_law_581 : decode (mcd M_Law_law) 581 = .ok (.ifCond .ne 15, 3) := by decide +kernel
theorem d_Law_law_584 : decode (mcd M_Law_law) 584 = .ok (.aload_n 3, 1) := by decide +kernel
theorem d_Law_law_585 : decode (mcd M_Law_law) 585 = .ok (.iconst 0, 1) := by decide +kernel
theorem d_Law_law_586 : decode (mcd M_Law_law) 586 = .ok (.laload, 1) := by decide +kernel
theorem d_Law_law_587 : decode (mcd M_Law_law) 587 = .ok (.iload 6, 2) := by decide +kernel
theorem d_Law_law_589 : decode (mcd M_Law_law) 589 = .ok (.i2l, 1) := by decide +kernel
theorem d_Law_law_590 : decode (mcd M_Law_law) 590 = .ok (.lcmp, 1) := by decide +kernel
theorem d_Law_law_591 : decode (mcd M_Law_law) 591 = .ok (.ifCond .eq 5, 3) := by decide +kernel
theorem d_Law_law_594 : decode (mcd M_Law_law) 594 = .ok (.iconst 0, 1) := by decide +kernel
theorem d_Law_law_595 : decode (mcd M_Law_law) 595 = .ok (.ireturn, 1) := by decide +kernel
theorem d_Law_law_596 : decode (mcd M_Law_law) 596 = .ok (.goto 41, 3) := by decide +kernel
theorem d_Law_law_599 : decode (mcd M_Law_law) 599 = .ok (.aload_n 1, 1) := by decide +kernel
theorem d_Law_law_600 : decode (mcd M_Law_law) 600 = .ok (.aload_n 0, 1) := by decide +kernel
theorem d_Law_law_601 : decode (mcd M_Law_law) 601 = .ok (.iload 4, 2) := by decide +kernel
theorem d_Law_law_603 : decode (mcd M_Law_law) 603 = .ok (.iconst 1, 1) := by decide +kernel
theorem d_Law_law_604 : decode (mcd M_Law_law) 604 = .ok (.iadd, 1) := by decide +kernel
theorem d_Law_law_605 : decode (mcd M_Law_law) 605 = .ok (.iaload, 1) := by decide +kernel
theorem d_Law_law_606 : decode (mcd M_Law_law) 606 = .ok (.invokevirtual 96, 3) := by decide +kernel
theorem d_Law_law_609 : decode (mcd M_Law_law) 609 = .ok (.aload_n 2, 1) := by decide +kernel
theorem d_Law_law_610 : decode (mcd M_Law_law) 610 = .ok (.aload_n 0, 1) := by decide +kernel
theorem d_Law_law_611 : decode (mcd M_Law_law) 611 = .ok (.iload 4, 2) := by decide +kernel
theorem d_Law_law_613 : decode (mcd M_Law_law) 613 = .ok (.iconst 1, 1) := by decide +kernel
theorem d_Law_law_614 : decode (mcd M_Law_law) 614 = .ok (.iadd, 1) := by decide +kernel
theorem d_Law_law_615 : decode (mcd M_Law_law) 615 = .ok (.iaload, 1) := by decide +kernel
theorem d_Law_law_616 : decode (mcd M_Law_law) 616 = .ok (.invokevirtual 100, 3) := by decide +kernel
theorem d_Law_law_619 : decode (mcd M_Law_law) 619 = .ok (.if_icmp .eq 18, 3) := by decide +kernel
theorem d_Law_law_622 : decode (mcd M_Law_law) 622 = .ok (.iconst 0, 1) := by decide +kernel
theorem d_Law_law_623 : decode (mcd M_Law_law) 623 = .ok (.ireturn, 1) := by decide +kernel
theorem d_Law_law_624 : decode (mcd M_Law_law) 624 = .ok (.aload_n 1, 1) := by decide +kernel
theorem d_Law_law_625 : decode (mcd M_Law_law) 625 = .ok (.invokevirtual 101, 3) := by decide +kernel
theorem d_Law_law_628 : decode (mcd M_Law_law) 628 = .ok (.aload_n 2, 1) := by decide +kernel
theorem d_Law_law_629 : decode (mcd M_Law_law) 629 = .ok (.invokevirtual 104, 3) := by decide +kernel
theorem d_Law_law_632 : decode (mcd M_Law_law) 632 = .ok (.if_icmp .eq 5, 3) := by decide +kernel
theorem d_Law_law_635 : decode (mcd M_Law_law) 635 = .ok (.iconst 0, 1) := by decide +kernel
theorem d_Law_law_636 : decode (mcd M_Law_law) 636 = .ok (.ireturn, 1) := by decide +kernel
theorem d_Law_law_637 : decode (mcd M_Law_law) 637 = .ok (.iinc 4 4, 3) := by decide +kernel
theorem d_Law_law_640 : decode (mcd M_Law_law) 640 = .ok (.goto (-617), 3) := by decide +kernel
theorem d_Law_law_643 : decode (mcd M_Law_law) 643 = .ok (.iconst 1, 1) := by decide +kernel
theorem d_Law_law_644 : decode (mcd M_Law_law) 644 = .ok (.ireturn, 1) := by decide +kernel
def R_law : String := "SuperDriverLaw"
def lw_P (b : Addr) (xs : List Int32) (args : Array Value) (s : State) : Prop := args = #[.ref b] ∧ s.IntsAt b xs ∧ xs.length ≤ 2048 ∧ (Jvm.Cond.and given_1 narrow_1).before args s = true
def lw_Q (_ : Array Value) (s : State) (o : Outcome) (t : State) : Prop := o = .returned (some (.int 1)) ∧ Framed s o t [] 601024 7293034
def lw_Z (below : List Frame) (a : Array Value) (s : State) : State → Prop := fun t => ∃ o, t.status = .running ∧ Ended t below o ∧ lw_Q a s o t
def Elw (G : Ctx) : Ev := (room_1, 601024, 7293034, fun below args s t => s = cS G → lw_Z below args s t)
theorem RoomE.l {G : Ctx} : RoomE (Elw G) 10 := ⟨by show 10 + 1 ≤ room_1.frames; decide, by show 40 * 10 + 40 ≤ room_1.locals; decide, by show 601024 ≤ room_1.cells; decide, by show 7293034 ≤ room_1.slots; decide⟩
theorem EvOK.l {G : Ctx} : EvOK (Elw G) := ⟨by show 601024 ≤ room_1.cells; decide, by show 7293034 ≤ room_1.slots; decide⟩
/-- the law's end -/
theorem x_lwret {G : Ctx} {bc bs pc : Nat} {lv : List (Option Value)} {ll : List (Nat × Int64)} {Γ : List Sh} {σ : Mem} (hd : decode (mcd M_Law_law) pc = .ok (.ireturn, 1)) : Wq G M_Law_law (Elw G) bc bs pc lv ll [.int 1] Γ σ := by
  intro p e s m args below meth c C H locs cells slots ls hV hS h1 h2 hl
  by_cases hs : s = cS G
  · refine va_forget (fun q hq => by rw [hs]; exact hS.2.2 q hq) ?_
    refine W.widen (k := 601024) (n := 7293034) (by have : cells + bc ≤ 601024 := h1; omega) (by have : slots + bs ≤ 7293034 := h2; omega) ?_
    intro T hT X
    obtain ⟨fs, hret, hrun, hended, hW, hframe⟩ := X.leave (v := some (.int 1)) (hlocks := C.locks) (fun h => by rw [C.ret] at h; cases h)
    have hmeth' : T.vm.method? m = some meth := X.method'
    have hb := C.code
    have hx := C.exec
    have hr : meth.sig.returnType = some .boolean := C.ret
    refine ⟨T.setFrames fs, ?_, fun _ => ⟨.returned (some (.int 1)), hrun, hended, rfl, ⟨_, rfl⟩, hW, hframe⟩⟩
    jvm_step X.here [X.here.top, hx, hb, hd, hmeth', hr, narrow_b1]
    (try refine ⟨rfl, ?_⟩); (try refine ⟨rfl, ?_⟩)
    first | (intro acts; rw [hret _ acts rfl rfl rfl]) | rw [hret _ _ rfl rfl rfl]
    exact Steps.refl _
  · exact fun T hT X => ⟨_, Steps.refl _, fun z => absurd z hs⟩
def Scr (G : Ctx) (a L : Nat) (sc : Nat → Int32) : Prop := va_X a L sc (cS G) (cS G).heap ∧ a < cB G
theorem Scr.at {G : Ctx} {M : Mth} {p : Program} {s : State} {m : MethodId} {meth : Method} {c : Code} {a L : Nat} {sc : Nat → Int32} (C : Cx G M p s m meth c) (h : Scr G a L sc) : va_X a L sc s s.heap := va_X.kept (va_X.moved C.warm.alike h.1) (C.out a h.2)
section SCR
variable {G : Ctx} {M : Mth} {E : Ev} {bc bs pc a L k : Nat} {sc : Nat → Int32} {lv : List (Option Value)} {ll : List (Nat × Int64)} {st : List Value} {Γ : List Sh} {σ : Mem}
theorem x_scld (hd : decode (mcd M) pc = .ok (.iaload, 1)) (hs : Scr G a L sc) (hk : k < L) (hL : L < 2 ^ 31) (kk : Wq G M E bc bs (pc + 1) lv ll (.int (sc k) :: st) Γ σ) : Wq G M E bc bs pc lv ll (.int (nI k) :: .ref a :: st) Γ σ := by
  intro p e s m args below meth c C H locs cells slots ls hV hS h1 h2 hl
  have hbl : a < s.heap.size := Nat.lt_of_lt_of_le hs.2 C.big
  refine va_sld C.exec C.code (hs.at C) hbl (fun z => absurd hs.2 (Nat.not_lt.mpr z)) hS (vp_in_nI hk (by omega)) hd ?_
  rw [nI_clamp (by omega)]
  exact kk p e s m args below meth c C H locs cells slots ls hV hS h1 h2 hl
theorem x_sclen (hd : decode (mcd M) pc = .ok (.arraylength, 1)) (hs : Scr G a L sc) (kk : Wq G M E bc bs (pc + 1) lv ll (.int (nI L) :: st) Γ σ) : Wq G M E bc bs pc lv ll (.ref a :: st) Γ σ := by
  intro p e s m args below meth c C H locs cells slots ls hV hS h1 h2 hl
  have hbl : a < s.heap.size := Nat.lt_of_lt_of_le hs.2 C.big
  exact va_slen C.exec C.code (hs.at C) hbl (fun z => absurd hs.2 (Nat.not_lt.mpr z)) hS hd (kk p e s m args below meth c C H locs cells slots ls hV hS h1 h2 hl)
end SCR
theorem lg_cmp_rf {x : Int64} : lg_cmp x x = 0 := by simp [lg_cmp]
theorem FrP.wL {σ : Mem} {k j : Nat} {v : Int64} : FrP (fun a => a = k) σ (wL σ k j v) := fun a ha => ⟨rfl, rfl, funext fun i => by show (if a = k ∧ i = j then v else σ.2.2 a i) = _; rw [if_neg (fun z => ha z.1)]⟩
