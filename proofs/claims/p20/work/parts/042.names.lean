theorem dL_step_0 : decode cL_step 0 = .ok (.iload_n 1, 1) := by decide +kernel
theorem dL_step_1 : decode cL_step 1 = .ok (.iconst 2, 1) := by decide +kernel
theorem dL_step_2 : decode cL_step 2 = .ok (.if_icmp .lt 10, 3) := by decide +kernel
theorem dL_step_5 : decode cL_step 5 = .ok (.aload 6, 2) := by decide +kernel
theorem dL_step_7 : decode cL_step 7 = .ok (.iconst 0, 1) := by decide +kernel
theorem dL_step_8 : decode cL_step 8 = .ok (.iaload, 1) := by decide +kernel
theorem dL_step_9 : decode cL_step 9 = .ok (.ifCond .ne 49, 3) := by decide +kernel
theorem dL_step_12 : decode cL_step 12 = .ok (.aload 6, 2) := by decide +kernel
theorem dL_step_14 : decode cL_step 14 = .ok (.iconst 0, 1) := by decide +kernel
theorem dL_step_15 : decode cL_step 15 = .ok (.iaload, 1) := by decide +kernel
theorem dL_step_16 : decode cL_step 16 = .ok (.bipush 12, 2) := by decide +kernel
theorem dL_step_18 : decode cL_step 18 = .ok (.if_icmp .ne 5, 3) := by decide +kernel
theorem dL_step_21 : decode cL_step 21 = .ok (.iconst 1, 1) := by decide +kernel
theorem dL_step_22 : decode cL_step 22 = .ok (.ireturn, 1) := by decide +kernel
theorem dL_step_23 : decode cL_step 23 = .ok (.aload 4, 2) := by decide +kernel
theorem dL_step_25 : decode cL_step 25 = .ok (.aload 6, 2) := by decide +kernel
theorem dL_step_27 : decode cL_step 27 = .ok (.iconst 0, 1) := by decide +kernel
theorem dL_step_28 : decode cL_step 28 = .ok (.iaload, 1) := by decide +kernel
theorem dL_step_29 : decode cL_step 29 = .ok (.iconst 0, 1) := by decide +kernel
theorem dL_step_30 : decode cL_step 30 = .ok (.iastore, 1) := by decide +kernel
theorem dL_step_31 : decode cL_step 31 = .ok (.aload 6, 2) := by decide +kernel
theorem dL_step_33 : decode cL_step 33 = .ok (.iconst 0, 1) := by decide +kernel
theorem dL_step_34 : decode cL_step 34 = .ok (.dup2, 1) := by decide +kernel
theorem dL_step_35 : decode cL_step 35 = .ok (.iaload, 1) := by decide +kernel
theorem dL_step_36 : decode cL_step 36 = .ok (.iconst 1, 1) := by decide +kernel
theorem dL_step_37 : decode cL_step 37 = .ok (.iadd, 1) := by decide +kernel
theorem dL_step_38 : decode cL_step 38 = .ok (.iastore, 1) := by decide +kernel
theorem dL_step_39 : decode cL_step 39 = .ok (.aload_n 0, 1) := by decide +kernel
theorem dL_step_40 : decode cL_step 40 = .ok (.invokevirtual 90, 3) := by decide +kernel
theorem dL_step_43 : decode cL_step 43 = .ok (.aload 6, 2) := by decide +kernel
theorem dL_step_45 : decode cL_step 45 = .ok (.iconst 0, 1) := by decide +kernel
theorem dL_step_46 : decode cL_step 46 = .ok (.iaload, 1) := by decide +kernel
theorem dL_step_47 : decode cL_step 47 = .ok (.iconst 1, 1) := by decide +kernel
theorem dL_step_48 : decode cL_step 48 = .ok (.isub, 1) := by decide +kernel
theorem dL_step_49 : decode cL_step 49 = .ok (.if_icmp .ne 7, 3) := by decide +kernel
theorem dL_step_52 : decode cL_step 52 = .ok (.iconst 1, 1) := by decide +kernel
theorem dL_step_53 : decode cL_step 53 = .ok (.goto 4, 3) := by decide +kernel
theorem dL_step_56 : decode cL_step 56 = .ok (.iconst 0, 1) := by decide +kernel
theorem dL_step_57 : decode cL_step 57 = .ok (.ireturn, 1) := by decide +kernel
theorem dL_step_58 : decode cL_step 58 = .ok (.iload_n 1, 1) := by decide +kernel
theorem dL_step_59 : decode cL_step 59 = .ok (.iconst 5, 1) := by decide +kernel
theorem dL_step_60 : decode cL_step 60 = .ok (.if_icmp .ge 130, 3) := by decide +kernel
theorem dL_step_63 : decode cL_step 63 = .ok (.iload_n 2, 1) := by decide +kernel
theorem dL_step_64 : decode cL_step 64 = .ok (.aload 6, 2) := by decide +kernel
theorem dL_step_66 : decode cL_step 66 = .ok (.iconst 0, 1) := by decide +kernel
theorem dL_step_67 : decode cL_step 67 = .ok (.iaload, 1) := by decide +kernel
theorem dL_step_68 : decode cL_step 68 = .ok (.irem, 1) := by decide +kernel
theorem dL_step_69 : decode cL_step 69 = .ok (.istore 7, 2) := by decide +kernel
theorem dL_step_71 : decode cL_step 71 = .ok (.iload_n 2, 1) := by decide +kernel
theorem dL_step_72 : decode cL_step 72 = .ok (.bipush 12, 2) := by decide +kernel
theorem dL_step_74 : decode cL_step 74 = .ok (.idiv, 1) := by decide +kernel
theorem dL_step_75 : decode cL_step 75 = .ok (.aload 6, 2) := by decide +kernel
theorem dL_step_77 : decode cL_step 77 = .ok (.iconst 0, 1) := by decide +kernel
theorem dL_step_78 : decode cL_step 78 = .ok (.iaload, 1) := by decide +kernel
theorem dL_step_79 : decode cL_step 79 = .ok (.irem, 1) := by decide +kernel
theorem dL_step_80 : decode cL_step 80 = .ok (.istore 8, 2) := by decide +kernel
theorem dL_step_82 : decode cL_step 82 = .ok (.aload 4, 2) := by decide +kernel
theorem dL_step_84 : decode cL_step 84 = .ok (.iload 8, 2) := by decide +kernel
theorem dL_step_86 : decode cL_step 86 = .ok (.iload 7, 2) := by decide +kernel
theorem dL_step_88 : decode cL_step 88 = .ok (.invokestatic 93, 3) := by decide +kernel
theorem dL_step_91 : decode cL_step 91 = .ok (.ifCond .ne 7, 3) := by decide +kernel
theorem dL_step_94 : decode cL_step 94 = .ok (.iconst 1, 1) := by decide +kernel
theorem dL_step_95 : decode cL_step 95 = .ok (.goto 4, 3) := by decide +kernel
theorem dL_step_98 : decode cL_step 98 = .ok (.iconst 0, 1) := by decide +kernel
theorem dL_step_99 : decode cL_step 99 = .ok (.istore 9, 2) := by decide +kernel
theorem dL_step_101 : decode cL_step 101 = .ok (.aload 4, 2) := by decide +kernel
theorem dL_step_103 : decode cL_step 103 = .ok (.iload 7, 2) := by decide +kernel
theorem dL_step_105 : decode cL_step 105 = .ok (.invokestatic 47, 3) := by decide +kernel
theorem dL_step_108 : decode cL_step 108 = .ok (.istore 10, 2) := by decide +kernel
theorem dL_step_110 : decode cL_step 110 = .ok (.aload_n 0, 1) := by decide +kernel
theorem dL_step_111 : decode cL_step 111 = .ok (.iload 7, 2) := by decide +kernel
theorem dL_step_113 : decode cL_step 113 = .ok (.iload 8, 2) := by decide +kernel
theorem dL_step_115 : decode cL_step 115 = .ok (.iload_n 3, 1) := by decide +kernel
theorem dL_step_116 : decode cL_step 116 = .ok (.iconst 3, 1) := by decide +kernel
theorem dL_step_117 : decode cL_step 117 = .ok (.irem, 1) := by decide +kernel
theorem dL_step_118 : decode cL_step 118 = .ok (.ifCond .le 7, 3) := by decide +kernel
theorem dL_step_121 : decode cL_step 121 = .ok (.iconst 1, 1) := by decide +kernel
theorem dL_step_122 : decode cL_step 122 = .ok (.goto 4, 3) := by decide +kernel
theorem dL_step_125 : decode cL_step 125 = .ok (.iconst 0, 1) := by decide +kernel
theorem dL_step_126 : decode cL_step 126 = .ok (.invokestatic 97, 3) := by decide +kernel
theorem dL_step_129 : decode cL_step 129 = .ok (.istore 11, 2) := by decide +kernel
theorem dL_step_131 : decode cL_step 131 = .ok (.aload 4, 2) := by decide +kernel
theorem dL_step_133 : decode cL_step 133 = .ok (.iload 7, 2) := by decide +kernel
theorem dL_step_135 : decode cL_step 135 = .ok (.iload 9, 2) := by decide +kernel
theorem dL_step_137 : decode cL_step 137 = .ok (.ifCond .eq 24, 3) := by decide +kernel
theorem dL_step_140 : decode cL_step 140 = .ok (.iconst 2, 1) := by decide +kernel
theorem dL_step_141 : decode cL_step 141 = .ok (.iload 8, 2) := by decide +kernel
theorem dL_step_143 : decode cL_step 143 = .ok (.iconst 1, 1) := by decide +kernel
theorem dL_step_144 : decode cL_step 144 = .ok (.iadd, 1) := by decide +kernel
theorem dL_step_145 : decode cL_step 145 = .ok (.imul, 1) := by decide +kernel
theorem dL_step_146 : decode cL_step 146 = .ok (.iload_n 3, 1) := by decide +kernel
theorem dL_step_147 : decode cL_step 147 = .ok (.iconst 3, 1) := by decide +kernel
theorem dL_step_148 : decode cL_step 148 = .ok (.irem, 1) := by decide +kernel
theorem dL_step_149 : decode cL_step 149 = .ok (.ifCond .le 7, 3) := by decide +kernel
theorem dL_step_152 : decode cL_step 152 = .ok (.iconst 1, 1) := by decide +kernel
theorem dL_step_153 : decode cL_step 153 = .ok (.goto 4, 3) := by decide +kernel
theorem dL_step_156 : decode cL_step 156 = .ok (.iconst 0, 1) := by decide +kernel
theorem dL_step_157 : decode cL_step 157 = .ok (.iadd, 1) := by decide +kernel
theorem dL_step_158 : decode cL_step 158 = .ok (.goto 8, 3) := by decide +kernel
theorem dL_step_161 : decode cL_step 161 = .ok (.aload 4, 2) := by decide +kernel
theorem dL_step_163 : decode cL_step 163 = .ok (.iload 7, 2) := by decide +kernel
theorem dL_step_165 : decode cL_step 165 = .ok (.iaload, 1) := by decide +kernel
theorem dL_step_166 : decode cL_step 166 = .ok (.iastore, 1) := by decide +kernel
theorem dL_step_167 : decode cL_step 167 = .ok (.iload 11, 2) := by decide +kernel
theorem dL_step_169 : decode cL_step 169 = .ok (.iload 9, 2) := by decide +kernel
theorem dL_step_171 : decode cL_step 171 = .ok (.ifCond .eq 8, 3) := by decide +kernel
theorem dL_step_174 : decode cL_step 174 = .ok (.iload 10, 2) := by decide +kernel
theorem dL_step_176 : decode cL_step 176 = .ok (.goto 5, 3) := by decide +kernel
theorem dL_step_179 : decode cL_step 179 = .ok (.bipush (-9), 2) := by decide +kernel
theorem dL_step_181 : decode cL_step 181 = .ok (.if_icmp .ne 7, 3) := by decide +kernel
theorem dL_step_184 : decode cL_step 184 = .ok (.iconst 1, 1) := by decide +kernel
theorem dL_step_185 : decode cL_step 185 = .ok (.goto 4, 3) := by decide +kernel
theorem dL_step_188 : decode cL_step 188 = .ok (.iconst 0, 1) := by decide +kernel
theorem dL_step_189 : decode cL_step 189 = .ok (.ireturn, 1) := by decide +kernel
theorem dL_step_190 : decode cL_step 190 = .ok (.iload_n 1, 1) := by decide +kernel
theorem dL_step_191 : decode cL_step 191 = .ok (.iconst 5, 1) := by decide +kernel
theorem dL_step_192 : decode cL_step 192 = .ok (.if_icmp .ne 55, 3) := by decide +kernel
theorem dL_step_195 : decode cL_step 195 = .ok (.iload_n 3, 1) := by decide +kernel
theorem dL_step_196 : decode cL_step 196 = .ok (.iconst 4, 1) := by decide +kernel
theorem dL_step_197 : decode cL_step 197 = .ok (.irem, 1) := by decide +kernel
theorem dL_step_198 : decode cL_step 198 = .ok (.ifCond .le 5, 3) := by decide +kernel
theorem dL_step_201 : decode cL_step 201 = .ok (.iconst 1, 1) := by decide +kernel
theorem dL_step_202 : decode cL_step 202 = .ok (.ireturn, 1) := by decide +kernel
theorem dL_step_203 : decode cL_step 203 = .ok (.aload 4, 2) := by decide +kernel
theorem dL_step_205 : decode cL_step 205 = .ok (.iload_n 2, 1) := by decide +kernel
theorem dL_step_206 : decode cL_step 206 = .ok (.aload 6, 2) := by decide +kernel
theorem dL_step_208 : decode cL_step 208 = .ok (.iconst 0, 1) := by decide +kernel
theorem dL_step_209 : decode cL_step 209 = .ok (.iaload, 1) := by decide +kernel
theorem dL_step_210 : decode cL_step 210 = .ok (.irem, 1) := by decide +kernel
theorem dL_step_211 : decode cL_step 211 = .ok (.invokestatic 47, 3) := by decide +kernel
theorem dL_step_214 : decode cL_step 214 = .ok (.istore 7, 2) := by decide +kernel
theorem dL_step_216 : decode cL_step 216 = .ok (.aload 4, 2) := by decide +kernel
theorem dL_step_218 : decode cL_step 218 = .ok (.iload_n 2, 1) := by decide +kernel
theorem dL_step_219 : decode cL_step 219 = .ok (.aload 6, 2) := by decide +kernel
theorem dL_step_221 : decode cL_step 221 = .ok (.iconst 0, 1) := by decide +kernel
theorem dL_step_222 : decode cL_step 222 = .ok (.iaload, 1) := by decide +kernel
theorem dL_step_223 : decode cL_step 223 = .ok (.irem, 1) := by decide +kernel
theorem dL_step_224 : decode cL_step 224 = .ok (.iconst 0, 1) := by decide +kernel
theorem dL_step_225 : decode cL_step 225 = .ok (.iastore, 1) := by decide +kernel
theorem dL_step_226 : decode cL_step 226 = .ok (.aload_n 0, 1) := by decide +kernel
theorem dL_step_227 : decode cL_step 227 = .ok (.iload_n 2, 1) := by decide +kernel
theorem dL_step_228 : decode cL_step 228 = .ok (.aload 6, 2) := by decide +kernel
theorem dL_step_230 : decode cL_step 230 = .ok (.iconst 0, 1) := by decide +kernel
theorem dL_step_231 : decode cL_step 231 = .ok (.iaload, 1) := by decide +kernel
theorem dL_step_232 : decode cL_step 232 = .ok (.irem, 1) := by decide +kernel
theorem dL_step_233 : decode cL_step 233 = .ok (.invokevirtual 101, 3) := by decide +kernel
theorem dL_step_236 : decode cL_step 236 = .ok (.iload 7, 2) := by decide +kernel
theorem dL_step_238 : decode cL_step 238 = .ok (.if_icmp .ne 7, 3) := by decide +kernel
theorem dL_step_241 : decode cL_step 241 = .ok (.iconst 1, 1) := by decide +kernel
theorem dL_step_242 : decode cL_step 242 = .ok (.goto 4, 3) := by decide +kernel
theorem dL_step_245 : decode cL_step 245 = .ok (.iconst 0, 1) := by decide +kernel
theorem dL_step_246 : decode cL_step 246 = .ok (.ireturn, 1) := by decide +kernel
theorem dL_step_247 : decode cL_step 247 = .ok (.iload_n 1, 1) := by decide +kernel
theorem dL_step_248 : decode cL_step 248 = .ok (.bipush 6, 2) := by decide +kernel
theorem dL_step_250 : decode cL_step 250 = .ok (.if_icmp .ne 121, 3) := by decide +kernel
theorem dL_step_253 : decode cL_step 253 = .ok (.iload_n 2, 1) := by decide +kernel
theorem dL_step_254 : decode cL_step 254 = .ok (.aload 6, 2) := by decide +kernel
theorem dL_step_256 : decode cL_step 256 = .ok (.iconst 0, 1) := by decide +kernel
theorem dL_step_257 : decode cL_step 257 = .ok (.iaload, 1) := by decide +kernel
theorem dL_step_258 : decode cL_step 258 = .ok (.irem, 1) := by decide +kernel
theorem dL_step_259 : decode cL_step 259 = .ok (.istore 7, 2) := by decide +kernel
theorem dL_step_261 : decode cL_step 261 = .ok (.iload_n 2, 1) := by decide +kernel
theorem dL_step_262 : decode cL_step 262 = .ok (.bipush 12, 2) := by decide +kernel
theorem dL_step_264 : decode cL_step 264 = .ok (.idiv, 1) := by decide +kernel
theorem dL_step_265 : decode cL_step 265 = .ok (.aload 6, 2) := by decide +kernel
theorem dL_step_267 : decode cL_step 267 = .ok (.iconst 0, 1) := by decide +kernel
theorem dL_step_268 : decode cL_step 268 = .ok (.iaload, 1) := by decide +kernel
theorem dL_step_269 : decode cL_step 269 = .ok (.irem, 1) := by decide +kernel
theorem dL_step_270 : decode cL_step 270 = .ok (.istore 8, 2) := by decide +kernel
theorem dL_step_272 : decode cL_step 272 = .ok (.aload_n 0, 1) := by decide +kernel
theorem dL_step_273 : decode cL_step 273 = .ok (.iload 7, 2) := by decide +kernel
theorem dL_step_275 : decode cL_step 275 = .ok (.iload 8, 2) := by decide +kernel
theorem dL_step_277 : decode cL_step 277 = .ok (.invokestatic 104, 3) := by decide +kernel
theorem dL_step_280 : decode cL_step 280 = .ok (.istore 9, 2) := by decide +kernel
theorem dL_step_282 : decode cL_step 282 = .ok (.iload 7, 2) := by decide +kernel
theorem dL_step_284 : decode cL_step 284 = .ok (.iload 8, 2) := by decide +kernel
theorem dL_step_286 : decode cL_step 286 = .ok (.if_icmp .eq 11, 3) := by decide +kernel
theorem dL_step_289 : decode cL_step 289 = .ok (.aload 6, 2) := by decide +kernel
theorem dL_step_291 : decode cL_step 291 = .ok (.iconst 1, 1) := by decide +kernel
theorem dL_step_292 : decode cL_step 292 = .ok (.iaload, 1) := by decide +kernel
theorem dL_step_293 : decode cL_step 293 = .ok (.iconst 5, 1) := by decide +kernel
theorem dL_step_294 : decode cL_step 294 = .ok (.if_icmp .ne 28, 3) := by decide +kernel
theorem dL_step_297 : decode cL_step 297 = .ok (.iload 9, 2) := by decide +kernel
theorem dL_step_299 : decode cL_step 299 = .ok (.iload 7, 2) := by decide +kernel
theorem dL_step_301 : decode cL_step 301 = .ok (.iload 8, 2) := by decide +kernel
theorem dL_step_303 : decode cL_step 303 = .ok (.if_icmp .ne 8, 3) := by decide +kernel
theorem dL_step_306 : decode cL_step 306 = .ok (.bipush (-9), 2) := by decide +kernel
theorem dL_step_308 : decode cL_step 308 = .ok (.goto 5, 3) := by decide +kernel
theorem dL_step_311 : decode cL_step 311 = .ok (.bipush (-8), 2) := by decide +kernel
theorem dL_step_313 : decode cL_step 313 = .ok (.if_icmp .ne 7, 3) := by decide +kernel
theorem dL_step_316 : decode cL_step 316 = .ok (.iconst 1, 1) := by decide +kernel
theorem dL_step_317 : decode cL_step 317 = .ok (.goto 4, 3) := by decide +kernel
theorem dL_step_320 : decode cL_step 320 = .ok (.iconst 0, 1) := by decide +kernel
theorem dL_step_321 : decode cL_step 321 = .ok (.ireturn, 1) := by decide +kernel
theorem dL_step_322 : decode cL_step 322 = .ok (.aload 5, 2) := by decide +kernel
theorem dL_step_324 : decode cL_step 324 = .ok (.iconst 2, 1) := by decide +kernel
theorem dL_step_325 : decode cL_step 325 = .ok (.aload 6, 2) := by decide +kernel
theorem dL_step_327 : decode cL_step 327 = .ok (.iconst 1, 1) := by decide +kernel
theorem dL_step_328 : decode cL_step 328 = .ok (.iaload, 1) := by decide +kernel
theorem dL_step_329 : decode cL_step 329 = .ok (.imul, 1) := by decide +kernel
theorem dL_step_330 : decode cL_step 330 = .ok (.iload 7, 2) := by decide +kernel
theorem dL_step_332 : decode cL_step 332 = .ok (.iastore, 1) := by decide +kernel
theorem dL_step_333 : decode cL_step 333 = .ok (.aload 5, 2) := by decide +kernel
theorem dL_step_335 : decode cL_step 335 = .ok (.iconst 2, 1) := by decide +kernel
theorem dL_step_336 : decode cL_step 336 = .ok (.aload 6, 2) := by decide +kernel
theorem dL_step_338 : decode cL_step 338 = .ok (.iconst 1, 1) := by decide +kernel
theorem dL_step_339 : decode cL_step 339 = .ok (.iaload, 1) := by decide +kernel
theorem dL_step_340 : decode cL_step 340 = .ok (.imul, 1) := by decide +kernel
theorem dL_step_341 : decode cL_step 341 = .ok (.iconst 1, 1) := by decide +kernel
theorem dL_step_342 : decode cL_step 342 = .ok (.iadd, 1) := by decide +kernel
theorem dL_step_343 : decode cL_step 343 = .ok (.iload 8, 2) := by decide +kernel
theorem dL_step_345 : decode cL_step 345 = .ok (.iastore, 1) := by decide +kernel
theorem dL_step_346 : decode cL_step 346 = .ok (.aload 6, 2) := by decide +kernel
theorem dL_step_348 : decode cL_step 348 = .ok (.iconst 1, 1) := by decide +kernel
theorem dL_step_349 : decode cL_step 349 = .ok (.dup2, 1) := by decide +kernel
theorem dL_step_350 : decode cL_step 350 = .ok (.iaload, 1) := by decide +kernel
theorem dL_step_351 : decode cL_step 351 = .ok (.iconst 1, 1) := by decide +kernel
theorem dL_step_352 : decode cL_step 352 = .ok (.iadd, 1) := by decide +kernel
theorem dL_step_353 : decode cL_step 353 = .ok (.iastore, 1) := by decide +kernel
theorem dL_step_354 : decode cL_step 354 = .ok (.iload 9, 2) := by decide +kernel
theorem dL_step_356 : decode cL_step 356 = .ok (.aload 6, 2) := by decide +kernel
theorem dL_step_358 : decode cL_step 358 = .ok (.iconst 1, 1) := by decide +kernel
theorem dL_step_359 : decode cL_step 359 = .ok (.iaload, 1) := by decide +kernel
theorem dL_step_360 : decode cL_step 360 = .ok (.iconst 1, 1) := by decide +kernel
theorem dL_step_361 : decode cL_step 361 = .ok (.isub, 1) := by decide +kernel
theorem dL_step_362 : decode cL_step 362 = .ok (.if_icmp .ne 7, 3) := by decide +kernel
theorem dL_step_365 : decode cL_step 365 = .ok (.iconst 1, 1) := by decide +kernel
theorem dL_step_366 : decode cL_step 366 = .ok (.goto 4, 3) := by decide +kernel
theorem dL_step_369 : decode cL_step 369 = .ok (.iconst 0, 1) := by decide +kernel
theorem dL_step_370 : decode cL_step 370 = .ok (.ireturn, 1) := by decide +kernel
theorem dL_step_371 : decode cL_step 371 = .ok (.iload_n 1, 1) := by decide +kernel
theorem dL_step_372 : decode cL_step 372 = .ok (.bipush 7, 2) := by decide +kernel
theorem dL_step_374 : decode cL_step 374 = .ok (.if_icmp .ne 104, 3) := by decide +kernel
theorem dL_step_377 : decode cL_step 377 = .ok (.aload_n 0, 1) := by decide +kernel
theorem dL_step_378 : decode cL_step 378 = .ok (.invokestatic 108, 3) := by decide +kernel
theorem dL_step_381 : decode cL_step 381 = .ok (.istore 7, 2) := by decide +kernel
theorem dL_step_383 : decode cL_step 383 = .ok (.aload 6, 2) := by decide +kernel
theorem dL_step_385 : decode cL_step 385 = .ok (.iconst 2, 1) := by decide +kernel
theorem dL_step_386 : decode cL_step 386 = .ok (.dup2, 1) := by decide +kernel
theorem dL_step_387 : decode cL_step 387 = .ok (.iaload, 1) := by decide +kernel
theorem dL_step_388 : decode cL_step 388 = .ok (.iload 7, 2) := by decide +kernel
theorem dL_step_390 : decode cL_step 390 = .ok (.bipush (-8), 2) := by decide +kernel
theorem dL_step_392 : decode cL_step 392 = .ok (.if_icmp .ne 7, 3) := by decide +kernel
theorem dL_step_395 : decode cL_step 395 = .ok (.iconst 0, 1) := by decide +kernel
theorem dL_step_396 : decode cL_step 396 = .ok (.goto 4, 3) := by decide +kernel
theorem dL_step_399 : decode cL_step 399 = .ok (.iconst 1, 1) := by decide +kernel
theorem dL_step_400 : decode cL_step 400 = .ok (.iadd, 1) := by decide +kernel
theorem dL_step_401 : decode cL_step 401 = .ok (.iastore, 1) := by decide +kernel
theorem dL_step_402 : decode cL_step 402 = .ok (.iload 7, 2) := by decide +kernel
theorem dL_step_404 : decode cL_step 404 = .ok (.aload 6, 2) := by decide +kernel
theorem dL_step_406 : decode cL_step 406 = .ok (.iconst 2, 1) := by decide +kernel
theorem dL_step_407 : decode cL_step 407 = .ok (.iaload, 1) := by decide +kernel
theorem dL_step_408 : decode cL_step 408 = .ok (.bipush 8, 2) := by decide +kernel
theorem dL_step_410 : decode cL_step 410 = .ok (.if_icmp .ne 15, 3) := by decide +kernel
theorem dL_step_413 : decode cL_step 413 = .ok (.iload 7, 2) := by decide +kernel
theorem dL_step_415 : decode cL_step 415 = .ok (.bipush (-8), 2) := by decide +kernel
theorem dL_step_417 : decode cL_step 417 = .ok (.if_icmp .ne 8, 3) := by decide +kernel
theorem dL_step_420 : decode cL_step 420 = .ok (.bipush (-8), 2) := by decide +kernel
theorem dL_step_422 : decode cL_step 422 = .ok (.goto 9, 3) := by decide +kernel
theorem dL_step_425 : decode cL_step 425 = .ok (.aload 6, 2) := by decide +kernel
theorem dL_step_427 : decode cL_step 427 = .ok (.iconst 2, 1) := by decide +kernel
theorem dL_step_428 : decode cL_step 428 = .ok (.iaload, 1) := by decide +kernel
theorem dL_step_429 : decode cL_step 429 = .ok (.iconst 1, 1) := by decide +kernel
theorem dL_step_430 : decode cL_step 430 = .ok (.isub, 1) := by decide +kernel
theorem dL_step_431 : decode cL_step 431 = .ok (.if_icmp .ne 45, 3) := by decide +kernel
theorem dL_step_434 : decode cL_step 434 = .ok (.aload_n 0, 1) := by decide +kernel
theorem dL_step_435 : decode cL_step 435 = .ok (.aload 6, 2) := by decide +kernel
theorem dL_step_437 : decode cL_step 437 = .ok (.iconst 2, 1) := by decide +kernel
theorem dL_step_438 : decode cL_step 438 = .ok (.iaload, 1) := by decide +kernel
theorem dL_step_439 : decode cL_step 439 = .ok (.iconst 1, 1) := by decide +kernel
theorem dL_step_440 : decode cL_step 440 = .ok (.isub, 1) := by decide +kernel
theorem dL_step_441 : decode cL_step 441 = .ok (.invokevirtual 83, 3) := by decide +kernel
theorem dL_step_444 : decode cL_step 444 = .ok (.ifCond .lt 32, 3) := by decide +kernel
theorem dL_step_447 : decode cL_step 447 = .ok (.iload 7, 2) := by decide +kernel
theorem dL_step_449 : decode cL_step 449 = .ok (.bipush (-8), 2) := by decide +kernel
theorem dL_step_451 : decode cL_step 451 = .ok (.if_icmp .eq 21, 3) := by decide +kernel
theorem dL_step_454 : decode cL_step 454 = .ok (.aload_n 0, 1) := by decide +kernel
theorem dL_step_455 : decode cL_step 455 = .ok (.iload 7, 2) := by decide +kernel
theorem dL_step_457 : decode cL_step 457 = .ok (.invokevirtual 83, 3) := by decide +kernel
theorem dL_step_460 : decode cL_step 460 = .ok (.ifCond .ne 16, 3) := by decide +kernel
theorem dL_step_463 : decode cL_step 463 = .ok (.aload_n 0, 1) := by decide +kernel
theorem dL_step_464 : decode cL_step 464 = .ok (.iload 7, 2) := by decide +kernel
theorem dL_step_466 : decode cL_step 466 = .ok (.invokevirtual 112, 3) := by decide +kernel
theorem dL_step_469 : decode cL_step 469 = .ok (.ifCond .ne 7, 3) := by decide +kernel
theorem dL_step_472 : decode cL_step 472 = .ok (.iconst 1, 1) := by decide +kernel
theorem dL_step_473 : decode cL_step 473 = .ok (.goto 4, 3) := by decide +kernel
theorem dL_step_476 : decode cL_step 476 = .ok (.iconst 0, 1) := by decide +kernel
theorem dL_step_477 : decode cL_step 477 = .ok (.ireturn, 1) := by decide +kernel
theorem dL_step_478 : decode cL_step 478 = .ok (.aload_n 0, 1) := by decide +kernel
theorem dL_step_479 : decode cL_step 479 = .ok (.iload_n 2, 1) := by decide +kernel
theorem dL_step_480 : decode cL_step 480 = .ok (.iload_n 3, 1) := by decide +kernel
theorem dL_step_481 : decode cL_step 481 = .ok (.aload 6, 2) := by decide +kernel
theorem dL_step_483 : decode cL_step 483 = .ok (.invokestatic 115, 3) := by decide +kernel
theorem dL_step_486 : decode cL_step 486 = .ok (.ireturn, 1) := by decide +kernel
set_option maxRecDepth 20000 in
theorem ggL_checker_X4_init : GoodIn wsL_checker wsX4_init := goodIn_r _ [8, 9, 10, 11, 4, 12, 13, 14, 15, 16, 17, 18, 19, 20, 21, 22, 23, 24, 25, 26, 27, 28, 29, 30, 31, 32, 33, 34, 35, 36, 37, 298, 299, 300, 301, 302, 303, 304, 305, 306, 307, 308, 309, 310, 311] (by decide +kernel) (by decide +kernel)
set_option maxRecDepth 20000 in
theorem gL_checker_X4_init : GoodIn wsL_checker (wsX4_init) := ggL_checker_X4_init
set_option maxRecDepth 20000 in
theorem ggL_checker_L_draw : GoodIn wsL_checker wsL_draw := goodIn_r _ [41, 42, 43, 44] (by decide +kernel) (by decide +kernel)
set_option maxRecDepth 20000 in
theorem gL_checker_L_draw : GoodIn wsL_checker (va_wsS RL 121 yL_draw wsL_draw) := goodIn_app (goodIn_of _ (by decide +kernel)) ggL_checker_L_draw
set_option maxRecDepth 20000 in
theorem ggL_checker_L_step : GoodIn wsL_checker wsL_step := goodIn_ca (goodIn_ca (goodIn_ca (goodIn_ca (goodIn_ca (goodIn_ca (goodIn_ca (goodIn_ca (goodIn_ca (goodIn_r (.code yL_step cL_step 12 (some .boolean) :: wsL_step_r1) [47, 48, 49, 50, 3, 51, 52, 53, 54, 12, 55, 56, 40, 57, 58, 59, 60, 61, 62, 63, 64, 65, 66, 67, 68] (by decide +kernel) (by decide +kernel)) (goodIn_app (goodIn_r wsL_step_r2 [69, 70, 13, 71, 72, 73, 74, 75, 76, 77, 78, 79, 80, 81, 82, 83, 84, 85, 86, 87, 88, 89, 90, 91] (by decide +kernel) (by decide +kernel)) (goodIn_app (goodIn_r wsL_step_r3 [92, 93, 14, 15, 94, 95, 96, 97, 98, 99, 100, 101, 102, 103, 104, 105, 19, 106, 107, 108, 109, 110, 111, 112] (by decide +kernel) (by decide +kernel)) (goodIn_app (goodIn_r wsL_step_r4 [113, 114, 115, 18, 116, 29, 117, 118, 119, 120, 121, 122, 123, 124, 125, 126, 127, 128, 129, 130, 131, 132, 133, 134] (by decide +kernel) (by decide +kernel)) (goodIn_app (goodIn_r wsL_step_r5 [135, 136, 137, 138, 139, 23, 140, 141, 142, 143, 22, 144, 37, 145, 146, 147, 148, 149, 150, 151, 152, 153, 154, 155] (by decide +kernel) (by decide +kernel)) (goodIn_app (goodIn_r wsL_step_r6 [156, 157, 158, 159, 160, 161, 162, 163, 164, 165, 166, 167, 168, 169, 170, 171, 172, 173, 174, 175, 176, 177, 178, 179] (by decide +kernel) (by decide +kernel)) (goodIn_app (goodIn_r wsL_step_r7 [180, 181, 182, 183, 184, 185, 186, 187, 188, 189, 190, 191, 192, 193, 194, 195, 196, 197, 198, 199, 10, 11, 200, 201] (by decide +kernel) (by decide +kernel)) (goodIn_r wsL_step_r8 [202, 203, 204, 205, 206, 207, 208, 209, 210, 211, 212] (by decide +kernel) (by decide +kernel))))))))) (goodIn_r wsX40 [298, 299, 300, 301, 302, 303, 304, 305, 306, 307, 308] (by decide +kernel) (by decide +kernel))) (goodIn_r wsX30 [309, 310] (by decide +kernel) (by decide +kernel))) (goodIn_r wsX00 [312, 313, 314, 315, 316] (by decide +kernel) (by decide +kernel))) (goodIn_r wsX20 [311] (by decide +kernel) (by decide +kernel))) (goodIn_sub (fun _ h => List.mem_cons_of_mem _ (List.mem_append_left _ (List.mem_append_left _ (List.mem_append_left _ (List.mem_append_right _ h))))) (by decide +kernel))) (goodIn_sub (fun _ h => List.mem_cons_of_mem _ (List.mem_append_left _ (List.mem_append_left _ (List.mem_append_right _ h)))) (by decide +kernel))) (goodIn_sub (fun _ h => List.mem_cons_of_mem _ (List.mem_append_left _ (List.mem_append_right _ h))) (by decide +kernel))) (goodIn_sub (fun _ h => List.mem_cons_of_mem _ (List.mem_append_right _ h)) (by decide +kernel))
set_option maxRecDepth 20000 in
theorem gL_checker_L_step : GoodIn wsL_checker (va_wsS RL 125 yL_step wsL_step) := goodIn_app (goodIn_of _ (by decide +kernel)) ggL_checker_L_step
set_option maxRecDepth 20000 in
theorem ggL_checker_L_isKey : GoodIn wsL_checker wsL_isKey := goodIn_ca (goodIn_ca (goodIn_r _ [215, 156, 152, 153, 40, 154, 155, 157, 158, 159, 3, 160, 161, 162, 163, 164, 165, 166, 167, 23, 168, 169, 170, 171, 71, 72, 73, 74, 75, 76, 54, 172, 173, 174, 109, 110, 111, 112, 101, 175, 176, 177, 141, 142, 143, 22, 144, 37, 145, 146, 178, 179, 180, 181, 140, 58, 59, 60, 216, 217, 218, 219, 220, 221, 222, 24, 25, 223, 224, 225, 226, 12, 13, 227, 228, 229, 230, 231, 232, 233, 234, 235, 236, 237, 238, 239, 240, 241, 242, 243, 244, 245, 18, 246, 195, 29, 247, 248, 249, 210, 211, 120, 212, 122, 125, 250, 251, 252, 253, 254, 255, 256, 257, 258, 126, 127, 128, 129, 130, 131, 312, 313, 314, 315, 316, 298, 299, 300, 301, 302, 303, 304, 305, 306, 307, 308, 311, 309, 310] (by decide +kernel) (by decide +kernel)) (goodIn_sub (fun _ h => List.mem_cons_of_mem _ (List.mem_append_right _ h)) (by decide +kernel))) (goodIn_sub (fun _ h => List.mem_cons_of_mem _ (List.mem_append_left _ (List.mem_append_right _ h))) (by decide +kernel))
set_option maxRecDepth 20000 in
theorem gL_checker_L_isKey : GoodIn wsL_checker (va_wsS RL 129 yL_isKey wsL_isKey) := goodIn_app (goodIn_of _ (by decide +kernel)) ggL_checker_L_isKey
set_option maxRecDepth 20000 in
theorem ggL_checker_L_areMembers : GoodIn wsL_checker wsL_areMembers := goodIn_ca (goodIn_ca (goodIn_r _ [261, 156, 152, 153, 40, 154, 155, 157, 158, 159, 3, 160, 161, 162, 163, 164, 165, 166, 167, 23, 168, 169, 170, 171, 71, 72, 73, 74, 75, 76, 54, 172, 173, 174, 109, 110, 111, 112, 101, 175, 176, 177, 141, 142, 143, 22, 144, 37, 145, 146, 178, 179, 180, 181, 140, 262, 263, 264, 265, 266, 267, 268, 241, 242, 243, 244, 245, 18, 246, 195, 29, 247, 248, 249, 210, 211, 120, 212, 122, 125, 258, 126, 127, 128, 129, 130, 131, 230, 231, 232, 312, 313, 314, 315, 316, 298, 299, 300, 301, 302, 303, 304, 305, 306, 307, 308, 311, 309, 310] (by decide +kernel) (by decide +kernel)) (goodIn_sub (fun _ h => List.mem_cons_of_mem _ (List.mem_append_right _ h)) (by decide +kernel))) (goodIn_sub (fun _ h => List.mem_cons_of_mem _ (List.mem_append_left _ (List.mem_append_right _ h))) (by decide +kernel))
set_option maxRecDepth 20000 in
theorem gL_checker_L_areMembers : GoodIn wsL_checker (va_wsS RL 133 yL_areMembers wsL_areMembers) := goodIn_app (goodIn_of _ (by decide +kernel)) ggL_checker_L_areMembers
set_option maxRecDepth 20000 in
theorem ggL_checker_L_isRoll : GoodIn wsL_checker wsL_isRoll := goodIn_ca (goodIn_ca (goodIn_r _ [271, 156, 272, 273, 274, 3, 275, 75, 76, 93, 23, 172, 173, 174, 109, 110, 111, 112, 101, 276, 277, 278, 279, 14, 15, 140, 161, 175, 176, 177, 241, 242, 243, 142, 22, 144, 37, 145, 146, 244, 245, 18, 246, 195, 29, 247, 248, 249, 210, 211, 120, 212, 122, 125, 258, 126, 127, 128, 129, 130, 131, 152, 153, 40, 154, 155, 157, 158, 159, 160, 162, 163, 164, 165, 166, 167, 168, 169, 170, 171, 71, 72, 73, 74, 54, 141, 143, 178, 179, 180, 181, 230, 231, 232, 298, 299, 300, 301, 302, 303, 304, 305, 306, 307, 308, 312, 313, 314, 315, 316, 311, 309, 310] (by decide +kernel) (by decide +kernel)) (goodIn_sub (fun _ h => List.mem_cons_of_mem _ (List.mem_append_left _ (List.mem_append_right _ h))) (by decide +kernel))) (goodIn_sub (fun _ h => List.mem_cons_of_mem _ (List.mem_append_right _ h)) (by decide +kernel))
set_option maxRecDepth 20000 in
theorem gL_checker_L_isRoll : GoodIn wsL_checker (va_wsS RL 137 yL_isRoll wsL_isRoll) := goodIn_app (goodIn_of _ (by decide +kernel)) ggL_checker_L_isRoll
set_option maxRecDepth 20000 in
theorem ggL_checker_L_areFaults : GoodIn wsL_checker wsL_areFaults := goodIn_ca (goodIn_r _ [282, 250, 251, 252, 3, 253, 23, 168, 169, 170, 171, 71, 72, 73, 74, 75, 76, 54, 172, 173, 174, 109, 110, 111, 112, 101, 254, 255, 256, 257, 161, 13, 140, 175, 176, 177, 241, 242, 243, 142, 22, 144, 37, 145, 146, 244, 245, 18, 246, 195, 29, 247, 248, 249, 210, 211, 120, 212, 122, 125, 237, 238, 239, 240, 12, 258, 126, 127, 128, 129, 130, 131, 262, 263, 264, 265, 266, 267, 268, 272, 273, 274, 275, 93, 276, 277, 278, 279, 14, 15, 283, 284, 285, 286, 141, 143, 287, 288, 289, 290, 291, 292, 293, 294, 19, 106, 107, 295, 296, 297, 298, 299, 300, 301, 302, 303, 304, 305, 306, 307, 308, 312, 313, 314, 315, 316, 311, 309, 310] (by decide +kernel) (by decide +kernel)) (goodIn_sub (fun _ h => List.mem_cons_of_mem _ (List.mem_append_left _ (List.mem_append_right _ h))) (by decide +kernel))
set_option maxRecDepth 20000 in
theorem gL_checker_L_areFaults : GoodIn wsL_checker (va_wsS RL 141 yL_areFaults wsL_areFaults) := goodIn_app (goodIn_of _ (by decide +kernel)) ggL_checker_L_areFaults
set_option maxRecDepth 20000 in
theorem ggL_checker_X4_restated : GoodIn wsL_checker wsX4_restated := goodIn_ca (goodIn_r _ [135, 54, 109, 110, 111, 3, 112, 75, 76, 101, 136, 137, 138, 139, 23, 108, 140, 141, 142, 143, 22, 144, 37, 145, 146, 298, 299, 300, 301, 302, 303, 304, 305, 306, 307, 308, 312, 313, 314, 315, 316, 311] (by decide +kernel) (by decide +kernel)) (goodIn_sub (fun _ h => List.mem_cons_of_mem _ (List.mem_append_left _ (List.mem_append_right _ h))) (by decide +kernel))
set_option maxRecDepth 20000 in
theorem gL_checker_X4_restated : GoodIn wsL_checker (wsV RL 112 RX4 yX4_restated wsX4_restated) := goodIn_app (goodIn_of _ (by decide +kernel)) ggL_checker_X4_restated
theorem dL_checker_0 : decode cL_checker 0 = .ok (.new 11, 3) := by decide +kernel
theorem dL_checker_3 : decode cL_checker 3 = .ok (.dup, 1) := by decide +kernel
theorem dL_checker_4 : decode cL_checker 4 = .ok (.invokespecial 119, 3) := by decide +kernel
theorem dL_checker_7 : decode cL_checker 7 = .ok (.astore_n 2, 1) := by decide +kernel
theorem dL_checker_8 : decode cL_checker 8 = .ok (.bipush 12, 2) := by decide +kernel
theorem dL_checker_10 : decode cL_checker 10 = .ok (.newarray .int, 2) := by decide +kernel
theorem dL_checker_12 : decode cL_checker 12 = .ok (.astore_n 3, 1) := by decide +kernel
theorem dL_checker_13 : decode cL_checker 13 = .ok (.bipush 10, 2) := by decide +kernel
theorem dL_checker_15 : decode cL_checker 15 = .ok (.newarray .int, 2) := by decide +kernel
theorem dL_checker_17 : decode cL_checker 17 = .ok (.astore 4, 2) := by decide +kernel
theorem dL_checker_19 : decode cL_checker 19 = .ok (.iconst 4, 1) := by decide +kernel
theorem dL_checker_20 : decode cL_checker 20 = .ok (.newarray .int, 2) := by decide +kernel
theorem dL_checker_22 : decode cL_checker 22 = .ok (.astore 5, 2) := by decide +kernel
theorem dL_checker_24 : decode cL_checker 24 = .ok (.aload 5, 2) := by decide +kernel
theorem dL_checker_26 : decode cL_checker 26 = .ok (.iconst 2, 1) := by decide +kernel
theorem dL_checker_27 : decode cL_checker 27 = .ok (.iconst 1, 1) := by decide +kernel
theorem dL_checker_28 : decode cL_checker 28 = .ok (.iastore, 1) := by decide +kernel
theorem dL_checker_29 : decode cL_checker 29 = .ok (.iconst 0, 1) := by decide +kernel
theorem dL_checker_30 : decode cL_checker 30 = .ok (.istore 6, 2) := by decide +kernel
theorem dL_checker_32 : decode cL_checker 32 = .ok (.iload 6, 2) := by decide +kernel
theorem dL_checker_34 : decode cL_checker 34 = .ok (.bipush 70, 2) := by decide +kernel
theorem dL_checker_36 : decode cL_checker 36 = .ok (.if_icmp .ge 272, 3) := by decide +kernel
theorem dL_checker_39 : decode cL_checker 39 = .ok (.aload_n 0, 1) := by decide +kernel
theorem dL_checker_40 : decode cL_checker 40 = .ok (.iload_n 1, 1) := by decide +kernel
theorem dL_checker_41 : decode cL_checker 41 = .ok (.iconst 3, 1) := by decide +kernel
theorem dL_checker_42 : decode cL_checker 42 = .ok (.iload 6, 2) := by decide +kernel
theorem dL_checker_44 : decode cL_checker 44 = .ok (.imul, 1) := by decide +kernel
theorem dL_checker_45 : decode cL_checker 45 = .ok (.iadd, 1) := by decide +kernel
theorem dL_checker_46 : decode cL_checker 46 = .ok (.iconst 1, 1) := by decide +kernel
theorem dL_checker_47 : decode cL_checker 47 = .ok (.iadd, 1) := by decide +kernel
theorem dL_checker_48 : decode cL_checker 48 = .ok (.ldc 120, 2) := by decide +kernel
theorem dL_checker_50 : decode cL_checker 50 = .ok (.invokestatic 121, 3) := by decide +kernel
theorem dL_checker_53 : decode cL_checker 53 = .ok (.istore 7, 2) := by decide +kernel
theorem dL_checker_55 : decode cL_checker 55 = .ok (.aload_n 0, 1) := by decide +kernel
theorem dL_checker_56 : decode cL_checker 56 = .ok (.iload_n 1, 1) := by decide +kernel
theorem dL_checker_57 : decode cL_checker 57 = .ok (.iconst 3, 1) := by decide +kernel
theorem dL_checker_58 : decode cL_checker 58 = .ok (.iload 6, 2) := by decide +kernel
theorem dL_checker_60 : decode cL_checker 60 = .ok (.imul, 1) := by decide +kernel
theorem dL_checker_61 : decode cL_checker 61 = .ok (.iadd, 1) := by decide +kernel
theorem dL_checker_62 : decode cL_checker 62 = .ok (.iconst 2, 1) := by decide +kernel
theorem dL_checker_63 : decode cL_checker 63 = .ok (.iadd, 1) := by decide +kernel
theorem dL_checker_64 : decode cL_checker 64 = .ok (.ldc 120, 2) := by decide +kernel
theorem dL_checker_66 : decode cL_checker 66 = .ok (.invokestatic 121, 3) := by decide +kernel
theorem dL_checker_69 : decode cL_checker 69 = .ok (.istore 8, 2) := by decide +kernel
theorem dL_checker_71 : decode cL_checker 71 = .ok (.iload 6, 2) := by decide +kernel
theorem dL_checker_73 : decode cL_checker 73 = .ok (.iconst 5, 1) := by decide +kernel
theorem dL_checker_74 : decode cL_checker 74 = .ok (.if_icmp .ge 7, 3) := by decide +kernel
theorem dL_checker_77 : decode cL_checker 77 = .ok (.iconst 0, 1) := by decide +kernel
theorem dL_checker_78 : decode cL_checker 78 = .ok (.goto 38, 3) := by decide +kernel
theorem dL_checker_81 : decode cL_checker 81 = .ok (.iload 6, 2) := by decide +kernel
theorem dL_checker_83 : decode cL_checker 83 = .ok (.bipush 9, 2) := by decide +kernel
theorem dL_checker_85 : decode cL_checker 85 = .ok (.if_icmp .ge 7, 3) := by decide +kernel
theorem dL_checker_88 : decode cL_checker 88 = .ok (.iconst 3, 1) := by decide +kernel
theorem dL_checker_89 : decode cL_checker 89 = .ok (.goto 27, 3) := by decide +kernel
theorem dL_checker_92 : decode cL_checker 92 = .ok (.iload 6, 2) := by decide +kernel
theorem dL_checker_94 : decode cL_checker 94 = .ok (.bipush 9, 2) := by decide +kernel
theorem dL_checker_96 : decode cL_checker 96 = .ok (.if_icmp .ne 8, 3) := by decide +kernel
theorem dL_checker_99 : decode cL_checker 99 = .ok (.bipush 6, 2) := by decide +kernel
theorem dL_checker_101 : decode cL_checker 101 = .ok (.goto 15, 3) := by decide +kernel
theorem dL_checker_104 : decode cL_checker 104 = .ok (.aload_n 0, 1) := by decide +kernel
theorem dL_checker_105 : decode cL_checker 105 = .ok (.iload_n 1, 1) := by decide +kernel
theorem dL_checker_106 : decode cL_checker 106 = .ok (.iconst 3, 1) := by decide +kernel
theorem dL_checker_107 : decode cL_checker 107 = .ok (.iload 6, 2) := by decide +kernel
theorem dL_checker_109 : decode cL_checker 109 = .ok (.imul, 1) := by decide +kernel
theorem dL_checker_110 : decode cL_checker 110 = .ok (.iadd, 1) := by decide +kernel
theorem dL_checker_111 : decode cL_checker 111 = .ok (.bipush 24, 2) := by decide +kernel
theorem dL_checker_113 : decode cL_checker 113 = .ok (.invokestatic 121, 3) := by decide +kernel
theorem dL_checker_116 : decode cL_checker 116 = .ok (.istore 9, 2) := by decide +kernel
theorem dL_checker_118 : decode cL_checker 118 = .ok (.aload_n 2, 1) := by decide +kernel
theorem dL_checker_119 : decode cL_checker 119 = .ok (.iload 9, 2) := by decide +kernel
theorem dL_checker_121 : decode cL_checker 121 = .ok (.iload 7, 2) := by decide +kernel
theorem dL_checker_123 : decode cL_checker 123 = .ok (.iload 8, 2) := by decide +kernel
theorem dL_checker_125 : decode cL_checker 125 = .ok (.aload_n 3, 1) := by decide +kernel
theorem dL_checker_126 : decode cL_checker 126 = .ok (.aload 4, 2) := by decide +kernel
theorem dL_checker_128 : decode cL_checker 128 = .ok (.aload 5, 2) := by decide +kernel
theorem dL_checker_130 : decode cL_checker 130 = .ok (.invokestatic 125, 3) := by decide +kernel
theorem dL_checker_133 : decode cL_checker 133 = .ok (.ifCond .ne 5, 3) := by decide +kernel
theorem dL_checker_136 : decode cL_checker 136 = .ok (.iconst 0, 1) := by decide +kernel
theorem dL_checker_137 : decode cL_checker 137 = .ok (.ireturn, 1) := by decide +kernel
theorem dL_checker_138 : decode cL_checker 138 = .ok (.iload 8, 2) := by decide +kernel
theorem dL_checker_140 : decode cL_checker 140 = .ok (.bipush 9, 2) := by decide +kernel
theorem dL_checker_142 : decode cL_checker 142 = .ok (.idiv, 1) := by decide +kernel
theorem dL_checker_143 : decode cL_checker 143 = .ok (.aload 5, 2) := by decide +kernel
theorem dL_checker_145 : decode cL_checker 145 = .ok (.iconst 2, 1) := by decide +kernel
theorem dL_checker_146 : decode cL_checker 146 = .ok (.iaload, 1) := by decide +kernel
theorem dL_checker_147 : decode cL_checker 147 = .ok (.irem, 1) := by decide +kernel
theorem dL_checker_148 : decode cL_checker 148 = .ok (.istore 10, 2) := by decide +kernel
theorem dL_checker_150 : decode cL_checker 150 = .ok (.aload_n 2, 1) := by decide +kernel
theorem dL_checker_151 : decode cL_checker 151 = .ok (.aload_n 3, 1) := by decide +kernel
theorem dL_checker_152 : decode cL_checker 152 = .ok (.aload 5, 2) := by decide +kernel
theorem dL_checker_154 : decode cL_checker 154 = .ok (.iload 7, 2) := by decide +kernel
theorem dL_checker_156 : decode cL_checker 156 = .ok (.bipush 9, 2) := by decide +kernel
theorem dL_checker_158 : decode cL_checker 158 = .ok (.idiv, 1) := by decide +kernel
theorem dL_checker_159 : decode cL_checker 159 = .ok (.aload 5, 2) := by decide +kernel
theorem dL_checker_161 : decode cL_checker 161 = .ok (.iconst 0, 1) := by decide +kernel
theorem dL_checker_162 : decode cL_checker 162 = .ok (.iaload, 1) := by decide +kernel
theorem dL_checker_163 : decode cL_checker 163 = .ok (.irem, 1) := by decide +kernel
theorem dL_checker_164 : decode cL_checker 164 = .ok (.iload 8, 2) := by decide +kernel
theorem dL_checker_166 : decode cL_checker 166 = .ok (.bipush 11, 2) := by decide +kernel
theorem dL_checker_168 : decode cL_checker 168 = .ok (.idiv, 1) := by decide +kernel
theorem dL_checker_169 : decode cL_checker 169 = .ok (.iconst 4, 1) := by decide +kernel
theorem dL_checker_170 : decode cL_checker 170 = .ok (.irem, 1) := by decide +kernel
theorem dL_checker_171 : decode cL_checker 171 = .ok (.iload 7, 2) := by decide +kernel
theorem dL_checker_173 : decode cL_checker 173 = .ok (.iconst 5, 1) := by decide +kernel
theorem dL_checker_174 : decode cL_checker 174 = .ok (.idiv, 1) := by decide +kernel
theorem dL_checker_175 : decode cL_checker 175 = .ok (.iconst 4, 1) := by decide +kernel
theorem dL_checker_176 : decode cL_checker 176 = .ok (.irem, 1) := by decide +kernel
theorem dL_checker_177 : decode cL_checker 177 = .ok (.iload 10, 2) := by decide +kernel
theorem dL_checker_179 : decode cL_checker 179 = .ok (.invokestatic 129, 3) := by decide +kernel
theorem dL_checker_182 : decode cL_checker 182 = .ok (.ifCond .eq 33, 3) := by decide +kernel
theorem dL_checker_185 : decode cL_checker 185 = .ok (.aload_n 2, 1) := by decide +kernel
theorem dL_checker_186 : decode cL_checker 186 = .ok (.iload 7, 2) := by decide +kernel
theorem dL_checker_188 : decode cL_checker 188 = .ok (.bipush 7, 2) := by decide +kernel
theorem dL_checker_190 : decode cL_checker 190 = .ok (.idiv, 1) := by decide +kernel
theorem dL_checker_191 : decode cL_checker 191 = .ok (.aload 5, 2) := by decide +kernel
theorem dL_checker_193 : decode cL_checker 193 = .ok (.iconst 0, 1) := by decide +kernel
theorem dL_checker_194 : decode cL_checker 194 = .ok (.iaload, 1) := by decide +kernel
theorem dL_checker_195 : decode cL_checker 195 = .ok (.irem, 1) := by decide +kernel
theorem dL_checker_196 : decode cL_checker 196 = .ok (.iload 8, 2) := by decide +kernel
theorem dL_checker_198 : decode cL_checker 198 = .ok (.bipush 13, 2) := by decide +kernel
theorem dL_checker_200 : decode cL_checker 200 = .ok (.idiv, 1) := by decide +kernel
theorem dL_checker_201 : decode cL_checker 201 = .ok (.iconst 4, 1) := by decide +kernel
theorem dL_checker_202 : decode cL_checker 202 = .ok (.irem, 1) := by decide +kernel
theorem dL_checker_203 : decode cL_checker 203 = .ok (.iload 10, 2) := by decide +kernel
theorem dL_checker_205 : decode cL_checker 205 = .ok (.invokestatic 133, 3) := by decide +kernel
theorem dL_checker_208 : decode cL_checker 208 = .ok (.ifCond .eq 7, 3) := by decide +kernel
theorem dL_checker_211 : decode cL_checker 211 = .ok (.iconst 1, 1) := by decide +kernel
theorem dL_checker_212 : decode cL_checker 212 = .ok (.goto 4, 3) := by decide +kernel
theorem dL_checker_215 : decode cL_checker 215 = .ok (.iconst 0, 1) := by decide +kernel
theorem dL_checker_216 : decode cL_checker 216 = .ok (.istore 11, 2) := by decide +kernel
theorem dL_checker_218 : decode cL_checker 218 = .ok (.iconst 0, 1) := by decide +kernel
theorem dL_checker_219 : decode cL_checker 219 = .ok (.istore 12, 2) := by decide +kernel
theorem dL_checker_221 : decode cL_checker 221 = .ok (.iload 12, 2) := by decide +kernel
theorem dL_checker_223 : decode cL_checker 223 = .ok (.aload 5, 2) := by decide +kernel
theorem dL_checker_225 : decode cL_checker 225 = .ok (.iconst 1, 1) := by decide +kernel
theorem dL_checker_226 : decode cL_checker 226 = .ok (.iaload, 1) := by decide +kernel
theorem dL_checker_227 : decode cL_checker 227 = .ok (.if_icmp .ge 39, 3) := by decide +kernel
theorem dL_checker_230 : decode cL_checker 230 = .ok (.iload 11, 2) := by decide +kernel
theorem dL_checker_232 : decode cL_checker 232 = .ok (.ifCond .eq 34, 3) := by decide +kernel
theorem dL_checker_235 : decode cL_checker 235 = .ok (.aload_n 2, 1) := by decide +kernel
theorem dL_checker_236 : decode cL_checker 236 = .ok (.aload 4, 2) := by decide +kernel
theorem dL_checker_238 : decode cL_checker 238 = .ok (.iload 12, 2) := by decide +kernel
theorem dL_checker_240 : decode cL_checker 240 = .ok (.iload 7, 2) := by decide +kernel
theorem dL_checker_242 : decode cL_checker 242 = .ok (.iconst 3, 1) := by decide +kernel
theorem dL_checker_243 : decode cL_checker 243 = .ok (.idiv, 1) := by decide +kernel
theorem dL_checker_244 : decode cL_checker 244 = .ok (.iconst 5, 1) := by decide +kernel
theorem dL_checker_245 : decode cL_checker 245 = .ok (.irem, 1) := by decide +kernel
theorem dL_checker_246 : decode cL_checker 246 = .ok (.iload 8, 2) := by decide +kernel
theorem dL_checker_248 : decode cL_checker 248 = .ok (.bipush 17, 2) := by decide +kernel
theorem dL_checker_250 : decode cL_checker 250 = .ok (.idiv, 1) := by decide +kernel
theorem dL_checker_251 : decode cL_checker 251 = .ok (.iconst 4, 1) := by decide +kernel
theorem dL_checker_252 : decode cL_checker 252 = .ok (.irem, 1) := by decide +kernel
theorem dL_checker_253 : decode cL_checker 253 = .ok (.iload 10, 2) := by decide +kernel
theorem dL_checker_255 : decode cL_checker 255 = .ok (.invokestatic 137, 3) := by decide +kernel
theorem dL_checker_258 : decode cL_checker 258 = .ok (.istore 11, 2) := by decide +kernel
theorem dL_checker_260 : decode cL_checker 260 = .ok (.iinc 12 1, 3) := by decide +kernel
theorem dL_checker_263 : decode cL_checker 263 = .ok (.goto (-42), 3) := by decide +kernel
theorem dL_checker_266 : decode cL_checker 266 = .ok (.iload 11, 2) := by decide +kernel
theorem dL_checker_268 : decode cL_checker 268 = .ok (.ifCond .eq 32, 3) := by decide +kernel
theorem dL_checker_271 : decode cL_checker 271 = .ok (.iload 6, 2) := by decide +kernel
theorem dL_checker_273 : decode cL_checker 273 = .ok (.bipush 9, 2) := by decide +kernel
theorem dL_checker_275 : decode cL_checker 275 = .ok (.irem, 1) := by decide +kernel
theorem dL_checker_276 : decode cL_checker 276 = .ok (.bipush 8, 2) := by decide +kernel
theorem dL_checker_278 : decode cL_checker 278 = .ok (.if_icmp .ne 14, 3) := by decide +kernel
theorem dL_checker_281 : decode cL_checker 281 = .ok (.aload_n 2, 1) := by decide +kernel
theorem dL_checker_282 : decode cL_checker 282 = .ok (.aload 5, 2) := by decide +kernel
theorem dL_checker_284 : decode cL_checker 284 = .ok (.iload 10, 2) := by decide +kernel
theorem dL_checker_286 : decode cL_checker 286 = .ok (.invokestatic 141, 3) := by decide +kernel
theorem dL_checker_289 : decode cL_checker 289 = .ok (.ifCond .eq 11, 3) := by decide +kernel
theorem dL_checker_292 : decode cL_checker 292 = .ok (.aload_n 2, 1) := by decide +kernel
theorem dL_checker_293 : decode cL_checker 293 = .ok (.iconst 0, 1) := by decide +kernel
theorem dL_checker_294 : decode cL_checker 294 = .ok (.invokevirtual 112, 3) := by decide +kernel
theorem dL_checker_297 : decode cL_checker 297 = .ok (.ifCond .eq 5, 3) := by decide +kernel
theorem dL_checker_300 : decode cL_checker 300 = .ok (.iconst 0, 1) := by decide +kernel
theorem dL_checker_301 : decode cL_checker 301 = .ok (.ireturn, 1) := by decide +kernel
theorem dL_checker_302 : decode cL_checker 302 = .ok (.iinc 6 1, 3) := by decide +kernel
theorem dL_checker_305 : decode cL_checker 305 = .ok (.goto (-273), 3) := by decide +kernel
theorem dL_checker_308 : decode cL_checker 308 = .ok (.iconst 1, 1) := by decide +kernel
theorem dL_checker_309 : decode cL_checker 309 = .ok (.ireturn, 1) := by decide +kernel
set_option maxRecDepth 20000 in
theorem ggL_law_L_checker : GoodIn wsL_law wsL_checker := goodIn_ca (goodIn_ca (goodIn_ca (goodIn_ca (goodIn_ca (goodIn_ca (goodIn_ca (goodIn_ca (goodIn_ca (goodIn_r (.code yL_checker cL_checker 13 (some .boolean) :: wsL_checker_r1) [3, 4, 5, 6, 7, 8, 9, 10, 11, 12, 13, 14, 15, 16, 17, 18, 19, 20, 21, 22, 23, 24, 25, 26, 27] (by decide +kernel) (by decide +kernel)) (goodIn_app (goodIn_r wsL_checker_r2 [28, 29, 30, 31, 32, 33, 34, 35, 36, 37, 38, 39, 40, 41, 42, 2, 43, 44, 45, 46, 47, 48, 49, 50] (by decide +kernel) (by decide +kernel)) (goodIn_app (goodIn_r wsL_checker_r3 [51, 52, 53, 54, 55, 56, 57, 58, 59, 60, 61, 62, 63, 64, 65, 66, 67, 68, 69, 70, 71, 72, 73, 74] (by decide +kernel) (by decide +kernel)) (goodIn_app (goodIn_r wsL_checker_r4 [75, 76, 77, 78, 79, 80, 81, 82, 83, 84, 85, 86, 87, 88, 89, 90, 91, 92, 93, 94, 95, 96, 97, 98] (by decide +kernel) (by decide +kernel)) (goodIn_app (goodIn_r wsL_checker_r5 [99, 100, 101, 102, 103, 104, 105, 106, 107, 108, 109, 110, 111, 112, 113, 114, 115, 116, 117, 118, 119, 120, 121, 122] (by decide +kernel) (by decide +kernel)) (goodIn_app (goodIn_r wsL_checker_r6 [123, 124, 125, 126, 127, 128, 129, 130, 131, 132, 133, 134, 135, 136, 137, 138, 139, 140, 141, 142, 143, 144, 145, 146] (by decide +kernel) (by decide +kernel)) (goodIn_app (goodIn_r wsL_checker_r7 [147, 148, 149, 150, 151, 152, 153, 154, 155, 156, 157, 158, 159, 160, 161, 162, 163, 164, 165, 166, 167, 168, 169, 170] (by decide +kernel) (by decide +kernel)) (goodIn_app (goodIn_r wsL_checker_r8 [171, 172, 173, 174, 175, 176, 177, 178, 179, 180, 181, 182, 183, 184, 185, 186, 187, 188, 189, 190, 191, 192, 193, 194] (by decide +kernel) (by decide +kernel)) (goodIn_app (goodIn_r wsL_checker_r9 [195, 196, 197, 198, 199, 200, 201, 202, 203, 204, 205, 206, 207, 208, 209, 210, 211, 212, 213, 214, 215, 216, 217, 218] (by decide +kernel) (by decide +kernel)) (goodIn_app (goodIn_r wsL_checker_r10 [219, 220, 221, 222, 223, 224, 225, 226, 227, 228, 229, 230, 231, 232, 233, 234, 235, 236, 237, 238, 239, 240, 241, 242] (by decide +kernel) (by decide +kernel)) (goodIn_app (goodIn_r wsL_checker_r11 [243, 244, 245, 246, 247, 248, 249, 250, 251, 252, 253, 254, 255, 256, 257, 258, 259, 260, 261, 262, 263, 264, 265, 266] (by decide +kernel) (by decide +kernel)) (goodIn_app (goodIn_r wsL_checker_r12 [267, 268, 269, 270, 271, 272, 273, 274, 275, 276, 277, 278, 279, 280, 281, 282, 283, 284, 285, 286, 287, 288, 289, 290] (by decide +kernel) (by decide +kernel)) (goodIn_r wsL_checker_r13 [291, 292, 293, 294, 295, 296, 297, 298, 299] (by decide +kernel) (by decide +kernel)))))))))))))) (goodIn_r wsX40 [300, 301, 302, 303, 304, 305, 306, 307, 308, 309, 310] (by decide +kernel) (by decide +kernel))) (goodIn_r wsX30 [311, 312] (by decide +kernel) (by decide +kernel))) (goodIn_r wsX20 [313] (by decide +kernel) (by decide +kernel))) (goodIn_r wsX00 [314, 315, 316, 317, 318] (by decide +kernel) (by decide +kernel))) (goodIn_sub (fun _ h => List.mem_append_left _ (List.mem_append_left _ (List.mem_append_left _ (List.mem_append_right _ h)))) (by decide +kernel))) (goodIn_sub (fun _ h => List.mem_append_left _ (List.mem_append_left _ (List.mem_append_right _ h))) (by decide +kernel))) (goodIn_sub (fun _ h => List.mem_append_left _ (List.mem_append_right _ h)) (by decide +kernel))) (goodIn_sub (fun _ h => List.mem_append_right _ h) (by decide +kernel))
set_option maxRecDepth 20000 in
theorem gL_law_L_checker : GoodIn wsL_law (va_wsS RL 145 yL_checker wsL_checker) := goodIn_app (goodIn_of _ (by decide +kernel)) ggL_law_L_checker
theorem dL_law_0 : decode cL_law 0 = .ok (.aload_n 0, 1) := by decide +kernel
theorem dL_law_1 : decode cL_law 1 = .ok (.iconst 0, 1) := by decide +kernel
theorem dL_law_2 : decode cL_law 2 = .ok (.invokestatic 145, 3) := by decide +kernel
theorem dL_law_5 : decode cL_law 5 = .ok (.ifCond .eq 27, 3) := by decide +kernel
theorem dL_law_8 : decode cL_law 8 = .ok (.aload_n 0, 1) := by decide +kernel
theorem dL_law_9 : decode cL_law 9 = .ok (.sipush 215, 3) := by decide +kernel
theorem dL_law_12 : decode cL_law 12 = .ok (.invokestatic 145, 3) := by decide +kernel
theorem dL_law_15 : decode cL_law 15 = .ok (.ifCond .eq 17, 3) := by decide +kernel
theorem dL_law_18 : decode cL_law 18 = .ok (.aload_n 0, 1) := by decide +kernel
theorem dL_law_19 : decode cL_law 19 = .ok (.sipush 430, 3) := by decide +kernel
theorem dL_law_22 : decode cL_law 22 = .ok (.invokestatic 145, 3) := by decide +kernel
theorem dL_law_25 : decode cL_law 25 = .ok (.ifCond .eq 7, 3) := by decide +kernel
theorem dL_law_28 : decode cL_law 28 = .ok (.iconst 1, 1) := by decide +kernel
theorem dL_law_29 : decode cL_law 29 = .ok (.goto 4, 3) := by decide +kernel
theorem dL_law_32 : decode cL_law 32 = .ok (.iconst 0, 1) := by decide +kernel
theorem dL_law_33 : decode cL_law 33 = .ok (.ireturn, 1) := by decide +kernel
abbrev vwCl : List vw_C := [(RX0, TX0, 5), (RX2, TX2, 1), (RX3, TX3, 2), (RX4, TX4, 11)]
