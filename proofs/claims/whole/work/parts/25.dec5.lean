theorem d_Mod_gather_0 : decode b_Mod_gather 0 = .ok (.aload_n 0, 1) := by decide +kernel
theorem d_Mod_gather_1 : decode b_Mod_gather 1 = .ok (.iconst 0, 1) := by decide +kernel
theorem d_Mod_gather_2 : decode b_Mod_gather 2 = .ok (.putfield 165, 3) := by decide +kernel
theorem d_Mod_gather_5 : decode b_Mod_gather 5 = .ok (.aload_n 0, 1) := by decide +kernel
theorem d_Mod_gather_6 : decode b_Mod_gather 6 = .ok (.getfield 19, 3) := by decide +kernel
theorem d_Mod_gather_9 : decode b_Mod_gather 9 = .ok (.iload_n 1, 1) := by decide +kernel
theorem d_Mod_gather_10 : decode b_Mod_gather 10 = .ok (.iaload, 1) := by decide +kernel
theorem d_Mod_gather_11 : decode b_Mod_gather 11 = .ok (.istore 4, 2) := by decide +kernel
theorem d_Mod_gather_13 : decode b_Mod_gather 13 = .ok (.aload_n 0, 1) := by decide +kernel
theorem d_Mod_gather_14 : decode b_Mod_gather 14 = .ok (.getfield 68, 3) := by decide +kernel
theorem d_Mod_gather_17 : decode b_Mod_gather 17 = .ok (.iload 4, 2) := by decide +kernel
theorem d_Mod_gather_19 : decode b_Mod_gather 19 = .ok (.baload, 1) := by decide +kernel
theorem d_Mod_gather_20 : decode b_Mod_gather 20 = .ok (.ifCond .eq 49, 3) := by decide +kernel
theorem d_Mod_gather_23 : decode b_Mod_gather 23 = .ok (.aload_n 0, 1) := by decide +kernel
theorem d_Mod_gather_24 : decode b_Mod_gather 24 = .ok (.getfield 16, 3) := by decide +kernel
theorem d_Mod_gather_27 : decode b_Mod_gather 27 = .ok (.iload 4, 2) := by decide +kernel
theorem d_Mod_gather_29 : decode b_Mod_gather 29 = .ok (.baload, 1) := by decide +kernel
theorem d_Mod_gather_30 : decode b_Mod_gather 30 = .ok (.ifCond .eq 39, 3) := by decide +kernel
theorem d_Mod_gather_33 : decode b_Mod_gather 33 = .ok (.aload_n 0, 1) := by decide +kernel
theorem d_Mod_gather_34 : decode b_Mod_gather 34 = .ok (.getfield 29, 3) := by decide +kernel
theorem d_Mod_gather_37 : decode b_Mod_gather 37 = .ok (.iload_n 1, 1) := by decide +kernel
theorem d_Mod_gather_38 : decode b_Mod_gather 38 = .ok (.baload, 1) := by decide +kernel
theorem d_Mod_gather_39 : decode b_Mod_gather 39 = .ok (.ifCond .eq 30, 3) := by decide +kernel
theorem d_Mod_gather_42 : decode b_Mod_gather 42 = .ok (.iload_n 2, 1) := by decide +kernel
theorem d_Mod_gather_43 : decode b_Mod_gather 43 = .ok (.ifCond .ne 26, 3) := by decide +kernel
theorem d_Mod_gather_46 : decode b_Mod_gather 46 = .ok (.aload_n 0, 1) := by decide +kernel
theorem d_Mod_gather_47 : decode b_Mod_gather 47 = .ok (.getfield 71, 3) := by decide +kernel
theorem d_Mod_gather_50 : decode b_Mod_gather 50 = .ok (.iconst 2, 1) := by decide +kernel
theorem d_Mod_gather_51 : decode b_Mod_gather 51 = .ok (.iload 4, 2) := by decide +kernel
theorem d_Mod_gather_53 : decode b_Mod_gather 53 = .ok (.imul, 1) := by decide +kernel
theorem d_Mod_gather_54 : decode b_Mod_gather 54 = .ok (.iaload, 1) := by decide +kernel
theorem d_Mod_gather_55 : decode b_Mod_gather 55 = .ok (.iload_n 3, 1) := by decide +kernel
theorem d_Mod_gather_56 : decode b_Mod_gather 56 = .ok (.invokestatic 158, 3) := by decide +kernel
theorem d_Mod_gather_59 : decode b_Mod_gather 59 = .ok (.ifCond .eq 10, 3) := by decide +kernel
theorem d_Mod_gather_62 : decode b_Mod_gather 62 = .ok (.aload_n 0, 1) := by decide +kernel
theorem d_Mod_gather_63 : decode b_Mod_gather 63 = .ok (.iconst 0, 1) := by decide +kernel
theorem d_Mod_gather_64 : decode b_Mod_gather 64 = .ok (.iload 4, 2) := by decide +kernel
theorem d_Mod_gather_66 : decode b_Mod_gather 66 = .ok (.invokevirtual 168, 3) := by decide +kernel
theorem d_Mod_gather_69 : decode b_Mod_gather 69 = .ok (.iconst 0, 1) := by decide +kernel
theorem d_Mod_gather_70 : decode b_Mod_gather 70 = .ok (.istore 5, 2) := by decide +kernel
theorem d_Mod_gather_72 : decode b_Mod_gather 72 = .ok (.iload 5, 2) := by decide +kernel
theorem d_Mod_gather_74 : decode b_Mod_gather 74 = .ok (.iconst 2, 1) := by decide +kernel
theorem d_Mod_gather_75 : decode b_Mod_gather 75 = .ok (.aload_n 0, 1) := by decide +kernel
theorem d_Mod_gather_76 : decode b_Mod_gather 76 = .ok (.getfield 149, 3) := by decide +kernel
theorem d_Mod_gather_79 : decode b_Mod_gather 79 = .ok (.imul, 1) := by decide +kernel
theorem d_Mod_gather_80 : decode b_Mod_gather 80 = .ok (.if_icmp .ge 87, 3) := by decide +kernel
theorem d_Mod_gather_83 : decode b_Mod_gather 83 = .ok (.iload 5, 2) := by decide +kernel
theorem d_Mod_gather_85 : decode b_Mod_gather 85 = .ok (.iconst 2, 1) := by decide +kernel
theorem d_Mod_gather_86 : decode b_Mod_gather 86 = .ok (.idiv, 1) := by decide +kernel
theorem d_Mod_gather_87 : decode b_Mod_gather 87 = .ok (.istore 6, 2) := by decide +kernel
theorem d_Mod_gather_89 : decode b_Mod_gather 89 = .ok (.aload_n 0, 1) := by decide +kernel
theorem d_Mod_gather_90 : decode b_Mod_gather 90 = .ok (.iload 6, 2) := by decide +kernel
theorem d_Mod_gather_92 : decode b_Mod_gather 92 = .ok (.iload_n 1, 1) := by decide +kernel
theorem d_Mod_gather_93 : decode b_Mod_gather 93 = .ok (.aload_n 0, 1) := by decide +kernel
theorem d_Mod_gather_94 : decode b_Mod_gather 94 = .ok (.getfield 172, 3) := by decide +kernel
theorem d_Mod_gather_97 : decode b_Mod_gather 97 = .ok (.invokevirtual 136, 3) := by decide +kernel
theorem d_Mod_gather_100 : decode b_Mod_gather 100 = .ok (.istore 7, 2) := by decide +kernel
theorem d_Mod_gather_102 : decode b_Mod_gather 102 = .ok (.iload 7, 2) := by decide +kernel
theorem d_Mod_gather_104 : decode b_Mod_gather 104 = .ok (.iconst (-1), 1) := by decide +kernel
theorem d_Mod_gather_105 : decode b_Mod_gather 105 = .ok (.if_icmp .eq 56, 3) := by decide +kernel
theorem d_Mod_gather_108 : decode b_Mod_gather 108 = .ok (.iload 7, 2) := by decide +kernel
theorem d_Mod_gather_110 : decode b_Mod_gather 110 = .ok (.aload_n 0, 1) := by decide +kernel
theorem d_Mod_gather_111 : decode b_Mod_gather 111 = .ok (.getfield 89, 3) := by decide +kernel
theorem d_Mod_gather_114 : decode b_Mod_gather 114 = .ok (.if_icmp .eq 47, 3) := by decide +kernel
theorem d_Mod_gather_117 : decode b_Mod_gather 117 = .ok (.aload_n 0, 1) := by decide +kernel
theorem d_Mod_gather_118 : decode b_Mod_gather 118 = .ok (.iload 6, 2) := by decide +kernel
theorem d_Mod_gather_120 : decode b_Mod_gather 120 = .ok (.invokevirtual 152, 3) := by decide +kernel
theorem d_Mod_gather_123 : decode b_Mod_gather 123 = .ok (.ifCond .eq 38, 3) := by decide +kernel
theorem d_Mod_gather_126 : decode b_Mod_gather 126 = .ok (.aload_n 0, 1) := by decide +kernel
theorem d_Mod_gather_127 : decode b_Mod_gather 127 = .ok (.iload 6, 2) := by decide +kernel
theorem d_Mod_gather_129 : decode b_Mod_gather 129 = .ok (.iload 5, 2) := by decide +kernel
theorem d_Mod_gather_131 : decode b_Mod_gather 131 = .ok (.iconst 2, 1) := by decide +kernel
theorem d_Mod_gather_132 : decode b_Mod_gather 132 = .ok (.irem, 1) := by decide +kernel
theorem d_Mod_gather_133 : decode b_Mod_gather 133 = .ok (.invokevirtual 155, 3) := by decide +kernel
theorem d_Mod_gather_136 : decode b_Mod_gather 136 = .ok (.iload_n 2, 1) := by decide +kernel
theorem d_Mod_gather_137 : decode b_Mod_gather 137 = .ok (.if_icmp .ne 24, 3) := by decide +kernel
theorem d_Mod_gather_140 : decode b_Mod_gather 140 = .ok (.aload_n 0, 1) := by decide +kernel
theorem d_Mod_gather_141 : decode b_Mod_gather 141 = .ok (.getfield 74, 3) := by decide +kernel
theorem d_Mod_gather_144 : decode b_Mod_gather 144 = .ok (.iload 5, 2) := by decide +kernel
theorem d_Mod_gather_146 : decode b_Mod_gather 146 = .ok (.iaload, 1) := by decide +kernel
theorem d_Mod_gather_147 : decode b_Mod_gather 147 = .ok (.iload_n 3, 1) := by decide +kernel
theorem d_Mod_gather_148 : decode b_Mod_gather 148 = .ok (.invokestatic 158, 3) := by decide +kernel
theorem d_Mod_gather_151 : decode b_Mod_gather 151 = .ok (.ifCond .eq 10, 3) := by decide +kernel
theorem d_Mod_gather_154 : decode b_Mod_gather 154 = .ok (.aload_n 0, 1) := by decide +kernel
theorem d_Mod_gather_155 : decode b_Mod_gather 155 = .ok (.iconst 1, 1) := by decide +kernel
theorem d_Mod_gather_156 : decode b_Mod_gather 156 = .ok (.iload 5, 2) := by decide +kernel
theorem d_Mod_gather_158 : decode b_Mod_gather 158 = .ok (.invokevirtual 168, 3) := by decide +kernel
theorem d_Mod_gather_161 : decode b_Mod_gather 161 = .ok (.iinc 5 1, 3) := by decide +kernel
theorem d_Mod_gather_164 : decode b_Mod_gather 164 = .ok (.goto (-92), 3) := by decide +kernel
theorem d_Mod_gather_167 : decode b_Mod_gather 167 = .ok (.iconst 0, 1) := by decide +kernel
theorem d_Mod_gather_168 : decode b_Mod_gather 168 = .ok (.istore 5, 2) := by decide +kernel
theorem d_Mod_gather_170 : decode b_Mod_gather 170 = .ok (.iload 5, 2) := by decide +kernel
theorem d_Mod_gather_172 : decode b_Mod_gather 172 = .ok (.iconst 2, 1) := by decide +kernel
theorem d_Mod_gather_173 : decode b_Mod_gather 173 = .ok (.aload_n 0, 1) := by decide +kernel
theorem d_Mod_gather_174 : decode b_Mod_gather 174 = .ok (.getfield 149, 3) := by decide +kernel
theorem d_Mod_gather_177 : decode b_Mod_gather 177 = .ok (.imul, 1) := by decide +kernel
theorem d_Mod_gather_178 : decode b_Mod_gather 178 = .ok (.if_icmp .ge 90, 3) := by decide +kernel
theorem d_Mod_gather_181 : decode b_Mod_gather 181 = .ok (.iload 5, 2) := by decide +kernel
theorem d_Mod_gather_183 : decode b_Mod_gather 183 = .ok (.iconst 2, 1) := by decide +kernel
theorem d_Mod_gather_184 : decode b_Mod_gather 184 = .ok (.idiv, 1) := by decide +kernel
theorem d_Mod_gather_185 : decode b_Mod_gather 185 = .ok (.istore 6, 2) := by decide +kernel
theorem d_Mod_gather_187 : decode b_Mod_gather 187 = .ok (.aload_n 0, 1) := by decide +kernel
theorem d_Mod_gather_188 : decode b_Mod_gather 188 = .ok (.getfield 29, 3) := by decide +kernel
theorem d_Mod_gather_191 : decode b_Mod_gather 191 = .ok (.iload_n 1, 1) := by decide +kernel
theorem d_Mod_gather_192 : decode b_Mod_gather 192 = .ok (.baload, 1) := by decide +kernel
theorem d_Mod_gather_193 : decode b_Mod_gather 193 = .ok (.ifCond .eq 69, 3) := by decide +kernel
theorem d_Mod_gather_196 : decode b_Mod_gather 196 = .ok (.aload_n 0, 1) := by decide +kernel
theorem d_Mod_gather_197 : decode b_Mod_gather 197 = .ok (.getfield 35, 3) := by decide +kernel
theorem d_Mod_gather_200 : decode b_Mod_gather 200 = .ok (.iload 6, 2) := by decide +kernel
theorem d_Mod_gather_202 : decode b_Mod_gather 202 = .ok (.iaload, 1) := by decide +kernel
theorem d_Mod_gather_203 : decode b_Mod_gather 203 = .ok (.iload 4, 2) := by decide +kernel
theorem d_Mod_gather_205 : decode b_Mod_gather 205 = .ok (.if_icmp .ne 57, 3) := by decide +kernel
theorem d_Mod_gather_208 : decode b_Mod_gather 208 = .ok (.aload_n 0, 1) := by decide +kernel
theorem d_Mod_gather_209 : decode b_Mod_gather 209 = .ok (.getfield 41, 3) := by decide +kernel
theorem d_Mod_gather_212 : decode b_Mod_gather 212 = .ok (.iload 6, 2) := by decide +kernel
theorem d_Mod_gather_214 : decode b_Mod_gather 214 = .ok (.baload, 1) := by decide +kernel
theorem d_Mod_gather_215 : decode b_Mod_gather 215 = .ok (.ifCond .eq 47, 3) := by decide +kernel
theorem d_Mod_gather_218 : decode b_Mod_gather 218 = .ok (.aload_n 0, 1) := by decide +kernel
theorem d_Mod_gather_219 : decode b_Mod_gather 219 = .ok (.iload 6, 2) := by decide +kernel
theorem d_Mod_gather_221 : decode b_Mod_gather 221 = .ok (.invokevirtual 152, 3) := by decide +kernel
theorem d_Mod_gather_224 : decode b_Mod_gather 224 = .ok (.ifCond .eq 38, 3) := by decide +kernel
theorem d_Mod_gather_227 : decode b_Mod_gather 227 = .ok (.aload_n 0, 1) := by decide +kernel
theorem d_Mod_gather_228 : decode b_Mod_gather 228 = .ok (.iload 6, 2) := by decide +kernel
theorem d_Mod_gather_230 : decode b_Mod_gather 230 = .ok (.iload 5, 2) := by decide +kernel
theorem d_Mod_gather_232 : decode b_Mod_gather 232 = .ok (.iconst 2, 1) := by decide +kernel
theorem d_Mod_gather_233 : decode b_Mod_gather 233 = .ok (.irem, 1) := by decide +kernel
theorem d_Mod_gather_234 : decode b_Mod_gather 234 = .ok (.invokevirtual 155, 3) := by decide +kernel
theorem d_Mod_gather_237 : decode b_Mod_gather 237 = .ok (.iload_n 2, 1) := by decide +kernel
theorem d_Mod_gather_238 : decode b_Mod_gather 238 = .ok (.if_icmp .ne 24, 3) := by decide +kernel
theorem d_Mod_gather_241 : decode b_Mod_gather 241 = .ok (.aload_n 0, 1) := by decide +kernel
theorem d_Mod_gather_242 : decode b_Mod_gather 242 = .ok (.getfield 74, 3) := by decide +kernel
theorem d_Mod_gather_245 : decode b_Mod_gather 245 = .ok (.iload 5, 2) := by decide +kernel
theorem d_Mod_gather_247 : decode b_Mod_gather 247 = .ok (.iaload, 1) := by decide +kernel
theorem d_Mod_gather_248 : decode b_Mod_gather 248 = .ok (.iload_n 3, 1) := by decide +kernel
theorem d_Mod_gather_249 : decode b_Mod_gather 249 = .ok (.invokestatic 158, 3) := by decide +kernel
theorem d_Mod_gather_252 : decode b_Mod_gather 252 = .ok (.ifCond .eq 10, 3) := by decide +kernel
theorem d_Mod_gather_255 : decode b_Mod_gather 255 = .ok (.aload_n 0, 1) := by decide +kernel
theorem d_Mod_gather_256 : decode b_Mod_gather 256 = .ok (.iconst 2, 1) := by decide +kernel
theorem d_Mod_gather_257 : decode b_Mod_gather 257 = .ok (.iload 5, 2) := by decide +kernel
theorem d_Mod_gather_259 : decode b_Mod_gather 259 = .ok (.invokevirtual 168, 3) := by decide +kernel
theorem d_Mod_gather_262 : decode b_Mod_gather 262 = .ok (.iinc 5 1, 3) := by decide +kernel
theorem d_Mod_gather_265 : decode b_Mod_gather 265 = .ok (.goto (-95), 3) := by decide +kernel
theorem d_Mod_gather_268 : decode b_Mod_gather 268 = .ok (.iconst 3, 1) := by decide +kernel
theorem d_Mod_gather_269 : decode b_Mod_gather 269 = .ok (.istore 5, 2) := by decide +kernel
theorem d_Mod_gather_271 : decode b_Mod_gather 271 = .ok (.iload 5, 2) := by decide +kernel
theorem d_Mod_gather_273 : decode b_Mod_gather 273 = .ok (.bipush 6, 2) := by decide +kernel
theorem d_Mod_gather_275 : decode b_Mod_gather 275 = .ok (.if_icmp .ge 57, 3) := by decide +kernel
theorem d_Mod_gather_278 : decode b_Mod_gather 278 = .ok (.iconst 0, 1) := by decide +kernel
theorem d_Mod_gather_279 : decode b_Mod_gather 279 = .ok (.istore 6, 2) := by decide +kernel
theorem d_Mod_gather_281 : decode b_Mod_gather 281 = .ok (.iload 6, 2) := by decide +kernel
theorem d_Mod_gather_283 : decode b_Mod_gather 283 = .ok (.iconst 2, 1) := by decide +kernel
theorem d_Mod_gather_284 : decode b_Mod_gather 284 = .ok (.aload_n 0, 1) := by decide +kernel
theorem d_Mod_gather_285 : decode b_Mod_gather 285 = .ok (.getfield 162, 3) := by decide +kernel
theorem d_Mod_gather_288 : decode b_Mod_gather 288 = .ok (.imul, 1) := by decide +kernel
theorem d_Mod_gather_289 : decode b_Mod_gather 289 = .ok (.if_icmp .ge 37, 3) := by decide +kernel
theorem d_Mod_gather_292 : decode b_Mod_gather 292 = .ok (.aload_n 0, 1) := by decide +kernel
theorem d_Mod_gather_293 : decode b_Mod_gather 293 = .ok (.iload 6, 2) := by decide +kernel
theorem d_Mod_gather_295 : decode b_Mod_gather 295 = .ok (.iconst 2, 1) := by decide +kernel
theorem d_Mod_gather_296 : decode b_Mod_gather 296 = .ok (.idiv, 1) := by decide +kernel
theorem d_Mod_gather_297 : decode b_Mod_gather 297 = .ok (.iload 6, 2) := by decide +kernel
theorem d_Mod_gather_299 : decode b_Mod_gather 299 = .ok (.iconst 2, 1) := by decide +kernel
theorem d_Mod_gather_300 : decode b_Mod_gather 300 = .ok (.irem, 1) := by decide +kernel
theorem d_Mod_gather_301 : decode b_Mod_gather 301 = .ok (.iload 5, 2) := by decide +kernel
theorem d_Mod_gather_303 : decode b_Mod_gather 303 = .ok (.iload_n 1, 1) := by decide +kernel
theorem d_Mod_gather_304 : decode b_Mod_gather 304 = .ok (.iload_n 2, 1) := by decide +kernel
theorem d_Mod_gather_305 : decode b_Mod_gather 305 = .ok (.iload_n 3, 1) := by decide +kernel
theorem d_Mod_gather_306 : decode b_Mod_gather 306 = .ok (.invokevirtual 175, 3) := by decide +kernel
theorem d_Mod_gather_309 : decode b_Mod_gather 309 = .ok (.ifCond .eq 11, 3) := by decide +kernel
theorem d_Mod_gather_312 : decode b_Mod_gather 312 = .ok (.aload_n 0, 1) := by decide +kernel
theorem d_Mod_gather_313 : decode b_Mod_gather 313 = .ok (.iload 5, 2) := by decide +kernel
theorem d_Mod_gather_315 : decode b_Mod_gather 315 = .ok (.iload 6, 2) := by decide +kernel
theorem d_Mod_gather_317 : decode b_Mod_gather 317 = .ok (.invokevirtual 168, 3) := by decide +kernel
theorem d_Mod_gather_320 : decode b_Mod_gather 320 = .ok (.iinc 6 1, 3) := by decide +kernel
theorem d_Mod_gather_323 : decode b_Mod_gather 323 = .ok (.goto (-42), 3) := by decide +kernel
theorem d_Mod_gather_326 : decode b_Mod_gather 326 = .ok (.iinc 5 1, 3) := by decide +kernel
theorem d_Mod_gather_329 : decode b_Mod_gather 329 = .ok (.goto (-58), 3) := by decide +kernel
theorem d_Mod_gather_332 : decode b_Mod_gather 332 = .ok (.iconst 1, 1) := by decide +kernel
theorem d_Mod_gather_333 : decode b_Mod_gather 333 = .ok (.iload_n 2, 1) := by decide +kernel
theorem d_Mod_gather_334 : decode b_Mod_gather 334 = .ok (.isub, 1) := by decide +kernel
theorem d_Mod_gather_335 : decode b_Mod_gather 335 = .ok (.istore 5, 2) := by decide +kernel
theorem d_Mod_gather_337 : decode b_Mod_gather 337 = .ok (.aload_n 0, 1) := by decide +kernel
theorem d_Mod_gather_338 : decode b_Mod_gather 338 = .ok (.getfield 7, 3) := by decide +kernel
theorem d_Mod_gather_341 : decode b_Mod_gather 341 = .ok (.iload 4, 2) := by decide +kernel
theorem d_Mod_gather_343 : decode b_Mod_gather 343 = .ok (.baload, 1) := by decide +kernel
theorem d_Mod_gather_344 : decode b_Mod_gather 344 = .ok (.ifCond .ne 51, 3) := by decide +kernel
theorem d_Mod_gather_347 : decode b_Mod_gather 347 = .ok (.aload_n 0, 1) := by decide +kernel
theorem d_Mod_gather_348 : decode b_Mod_gather 348 = .ok (.getfield 77, 3) := by decide +kernel
theorem d_Mod_gather_351 : decode b_Mod_gather 351 = .ok (.iconst 2, 1) := by decide +kernel
theorem d_Mod_gather_352 : decode b_Mod_gather 352 = .ok (.iload_n 1, 1) := by decide +kernel
theorem d_Mod_gather_353 : decode b_Mod_gather 353 = .ok (.imul, 1) := by decide +kernel
theorem d_Mod_gather_354 : decode b_Mod_gather 354 = .ok (.iload 5, 2) := by decide +kernel
theorem d_Mod_gather_356 : decode b_Mod_gather 356 = .ok (.iadd, 1) := by decide +kernel
theorem d_Mod_gather_357 : decode b_Mod_gather 357 = .ok (.iaload, 1) := by decide +kernel
theorem d_Mod_gather_358 : decode b_Mod_gather 358 = .ok (.iload_n 3, 1) := by decide +kernel
theorem d_Mod_gather_359 : decode b_Mod_gather 359 = .ok (.invokestatic 158, 3) := by decide +kernel
theorem d_Mod_gather_362 : decode b_Mod_gather 362 = .ok (.ifCond .eq 33, 3) := by decide +kernel
theorem d_Mod_gather_365 : decode b_Mod_gather 365 = .ok (.aload_n 0, 1) := by decide +kernel
theorem d_Mod_gather_366 : decode b_Mod_gather 366 = .ok (.getfield 71, 3) := by decide +kernel
theorem d_Mod_gather_369 : decode b_Mod_gather 369 = .ok (.iconst 2, 1) := by decide +kernel
theorem d_Mod_gather_370 : decode b_Mod_gather 370 = .ok (.iload 4, 2) := by decide +kernel
theorem d_Mod_gather_372 : decode b_Mod_gather 372 = .ok (.imul, 1) := by decide +kernel
theorem d_Mod_gather_373 : decode b_Mod_gather 373 = .ok (.iload_n 2, 1) := by decide +kernel
theorem d_Mod_gather_374 : decode b_Mod_gather 374 = .ok (.iadd, 1) := by decide +kernel
theorem d_Mod_gather_375 : decode b_Mod_gather 375 = .ok (.iaload, 1) := by decide +kernel
theorem d_Mod_gather_376 : decode b_Mod_gather 376 = .ok (.iload_n 3, 1) := by decide +kernel
theorem d_Mod_gather_377 : decode b_Mod_gather 377 = .ok (.invokestatic 158, 3) := by decide +kernel
theorem d_Mod_gather_380 : decode b_Mod_gather 380 = .ok (.ifCond .eq 15, 3) := by decide +kernel
theorem d_Mod_gather_383 : decode b_Mod_gather 383 = .ok (.aload_n 0, 1) := by decide +kernel
theorem d_Mod_gather_384 : decode b_Mod_gather 384 = .ok (.bipush 6, 2) := by decide +kernel
theorem d_Mod_gather_386 : decode b_Mod_gather 386 = .ok (.iconst 2, 1) := by decide +kernel
theorem d_Mod_gather_387 : decode b_Mod_gather 387 = .ok (.iload_n 1, 1) := by decide +kernel
theorem d_Mod_gather_388 : decode b_Mod_gather 388 = .ok (.imul, 1) := by decide +kernel
theorem d_Mod_gather_389 : decode b_Mod_gather 389 = .ok (.iload 5, 2) := by decide +kernel
theorem d_Mod_gather_391 : decode b_Mod_gather 391 = .ok (.iadd, 1) := by decide +kernel
theorem d_Mod_gather_392 : decode b_Mod_gather 392 = .ok (.invokevirtual 168, 3) := by decide +kernel
theorem d_Mod_gather_395 : decode b_Mod_gather 395 = .ok (.return_, 1) := by decide +kernel
theorem d_Mod_comesOn_0 : decode b_Mod_comesOn 0 = .ok (.aload_n 0, 1) := by decide +kernel
theorem d_Mod_comesOn_1 : decode b_Mod_comesOn 1 = .ok (.iload_n 1, 1) := by decide +kernel
theorem d_Mod_comesOn_2 : decode b_Mod_comesOn 2 = .ok (.iload_n 2, 1) := by decide +kernel
theorem d_Mod_comesOn_3 : decode b_Mod_comesOn 3 = .ok (.iload_n 3, 1) := by decide +kernel
theorem d_Mod_comesOn_4 : decode b_Mod_comesOn 4 = .ok (.invokevirtual 179, 3) := by decide +kernel
theorem d_Mod_comesOn_7 : decode b_Mod_comesOn 7 = .ok (.aload_n 0, 1) := by decide +kernel
theorem d_Mod_comesOn_8 : decode b_Mod_comesOn 8 = .ok (.getfield 165, 3) := by decide +kernel
theorem d_Mod_comesOn_11 : decode b_Mod_comesOn 11 = .ok (.ifCond .le 7, 3) := by decide +kernel
theorem d_Mod_comesOn_14 : decode b_Mod_comesOn 14 = .ok (.iconst 1, 1) := by decide +kernel
theorem d_Mod_comesOn_15 : decode b_Mod_comesOn 15 = .ok (.goto 4, 3) := by decide +kernel
theorem d_Mod_comesOn_18 : decode b_Mod_comesOn 18 = .ok (.iconst 0, 1) := by decide +kernel
theorem d_Mod_comesOn_19 : decode b_Mod_comesOn 19 = .ok (.ireturn, 1) := by decide +kernel
theorem d_Mod_close_0 : decode b_Mod_close 0 = .ok (.iconst 0, 1) := by decide +kernel
theorem d_Mod_close_1 : decode b_Mod_close 1 = .ok (.istore_n 1, 1) := by decide +kernel
theorem d_Mod_close_2 : decode b_Mod_close 2 = .ok (.iload_n 1, 1) := by decide +kernel
theorem d_Mod_close_3 : decode b_Mod_close 3 = .ok (.bipush 20, 2) := by decide +kernel
theorem d_Mod_close_5 : decode b_Mod_close 5 = .ok (.if_icmp .ge 16, 3) := by decide +kernel
theorem d_Mod_close_8 : decode b_Mod_close 8 = .ok (.aload_n 0, 1) := by decide +kernel
theorem d_Mod_close_9 : decode b_Mod_close 9 = .ok (.getfield 71, 3) := by decide +kernel
theorem d_Mod_close_12 : decode b_Mod_close 12 = .ok (.iload_n 1, 1) := by decide +kernel
theorem d_Mod_close_13 : decode b_Mod_close 13 = .ok (.iconst 0, 1) := by decide +kernel
theorem d_Mod_close_14 : decode b_Mod_close 14 = .ok (.iastore, 1) := by decide +kernel
theorem d_Mod_close_15 : decode b_Mod_close 15 = .ok (.iinc 1 1, 3) := by decide +kernel
theorem d_Mod_close_18 : decode b_Mod_close 18 = .ok (.goto (-16), 3) := by decide +kernel
theorem d_Mod_close_21 : decode b_Mod_close 21 = .ok (.iconst 0, 1) := by decide +kernel
theorem d_Mod_close_22 : decode b_Mod_close 22 = .ok (.istore_n 1, 1) := by decide +kernel
theorem d_Mod_close_23 : decode b_Mod_close 23 = .ok (.iload_n 1, 1) := by decide +kernel
theorem d_Mod_close_24 : decode b_Mod_close 24 = .ok (.bipush 80, 2) := by decide +kernel
theorem d_Mod_close_26 : decode b_Mod_close 26 = .ok (.if_icmp .ge 16, 3) := by decide +kernel
theorem d_Mod_close_29 : decode b_Mod_close 29 = .ok (.aload_n 0, 1) := by decide +kernel
theorem d_Mod_close_30 : decode b_Mod_close 30 = .ok (.getfield 74, 3) := by decide +kernel
theorem d_Mod_close_33 : decode b_Mod_close 33 = .ok (.iload_n 1, 1) := by decide +kernel
theorem d_Mod_close_34 : decode b_Mod_close 34 = .ok (.iconst 0, 1) := by decide +kernel
theorem d_Mod_close_35 : decode b_Mod_close 35 = .ok (.iastore, 1) := by decide +kernel
theorem d_Mod_close_36 : decode b_Mod_close 36 = .ok (.iinc 1 1, 3) := by decide +kernel
theorem d_Mod_close_39 : decode b_Mod_close 39 = .ok (.goto (-16), 3) := by decide +kernel
theorem d_Mod_close_42 : decode b_Mod_close 42 = .ok (.iconst 0, 1) := by decide +kernel
theorem d_Mod_close_43 : decode b_Mod_close 43 = .ok (.istore_n 1, 1) := by decide +kernel
theorem d_Mod_close_44 : decode b_Mod_close 44 = .ok (.iload_n 1, 1) := by decide +kernel
theorem d_Mod_close_45 : decode b_Mod_close 45 = .ok (.bipush 120, 2) := by decide +kernel
theorem d_Mod_close_47 : decode b_Mod_close 47 = .ok (.if_icmp .ge 16, 3) := by decide +kernel
theorem d_Mod_close_50 : decode b_Mod_close 50 = .ok (.aload_n 0, 1) := by decide +kernel
theorem d_Mod_close_51 : decode b_Mod_close 51 = .ok (.getfield 77, 3) := by decide +kernel
theorem d_Mod_close_54 : decode b_Mod_close 54 = .ok (.iload_n 1, 1) := by decide +kernel
theorem d_Mod_close_55 : decode b_Mod_close 55 = .ok (.iconst 0, 1) := by decide +kernel
theorem d_Mod_close_56 : decode b_Mod_close 56 = .ok (.iastore, 1) := by decide +kernel
theorem d_Mod_close_57 : decode b_Mod_close 57 = .ok (.iinc 1 1, 3) := by decide +kernel
theorem d_Mod_close_60 : decode b_Mod_close 60 = .ok (.goto (-16), 3) := by decide +kernel
theorem d_Mod_close_63 : decode b_Mod_close 63 = .ok (.iconst 0, 1) := by decide +kernel
theorem d_Mod_close_64 : decode b_Mod_close 64 = .ok (.istore_n 1, 1) := by decide +kernel
theorem d_Mod_close_65 : decode b_Mod_close 65 = .ok (.iconst 1, 1) := by decide +kernel
theorem d_Mod_close_66 : decode b_Mod_close 66 = .ok (.istore_n 2, 1) := by decide +kernel
theorem d_Mod_close_67 : decode b_Mod_close 67 = .ok (.iload_n 2, 1) := by decide +kernel
theorem d_Mod_close_68 : decode b_Mod_close 68 = .ok (.ifCond .eq 170, 3) := by decide +kernel
theorem d_Mod_close_71 : decode b_Mod_close 71 = .ok (.iinc 1 1, 3) := by decide +kernel
theorem d_Mod_close_74 : decode b_Mod_close 74 = .ok (.iconst 0, 1) := by decide +kernel
theorem d_Mod_close_75 : decode b_Mod_close 75 = .ok (.istore_n 2, 1) := by decide +kernel
theorem d_Mod_close_76 : decode b_Mod_close 76 = .ok (.iconst 0, 1) := by decide +kernel
theorem d_Mod_close_77 : decode b_Mod_close 77 = .ok (.istore_n 3, 1) := by decide +kernel
theorem d_Mod_close_78 : decode b_Mod_close 78 = .ok (.iload_n 3, 1) := by decide +kernel
theorem d_Mod_close_79 : decode b_Mod_close 79 = .ok (.iconst 2, 1) := by decide +kernel
theorem d_Mod_close_80 : decode b_Mod_close 80 = .ok (.aload_n 0, 1) := by decide +kernel
theorem d_Mod_close_81 : decode b_Mod_close 81 = .ok (.getfield 183, 3) := by decide +kernel
theorem d_Mod_close_84 : decode b_Mod_close 84 = .ok (.imul, 1) := by decide +kernel
theorem d_Mod_close_85 : decode b_Mod_close 85 = .ok (.if_icmp .ge 44, 3) := by decide +kernel
theorem d_Mod_close_88 : decode b_Mod_close 88 = .ok (.aload_n 0, 1) := by decide +kernel
theorem d_Mod_close_89 : decode b_Mod_close 89 = .ok (.getfield 71, 3) := by decide +kernel
theorem d_Mod_close_92 : decode b_Mod_close 92 = .ok (.iload_n 3, 1) := by decide +kernel
theorem d_Mod_close_93 : decode b_Mod_close 93 = .ok (.iaload, 1) := by decide +kernel
theorem d_Mod_close_94 : decode b_Mod_close 94 = .ok (.ifCond .gt 29, 3) := by decide +kernel
theorem d_Mod_close_97 : decode b_Mod_close 97 = .ok (.aload_n 0, 1) := by decide +kernel
theorem d_Mod_close_98 : decode b_Mod_close 98 = .ok (.iload_n 3, 1) := by decide +kernel
theorem d_Mod_close_99 : decode b_Mod_close 99 = .ok (.iconst 2, 1) := by decide +kernel
theorem d_Mod_close_100 : decode b_Mod_close 100 = .ok (.idiv, 1) := by decide +kernel
theorem d_Mod_close_101 : decode b_Mod_close 101 = .ok (.iload_n 3, 1) := by decide +kernel
theorem d_Mod_close_102 : decode b_Mod_close 102 = .ok (.iconst 2, 1) := by decide +kernel
theorem d_Mod_close_103 : decode b_Mod_close 103 = .ok (.irem, 1) := by decide +kernel
theorem d_Mod_close_104 : decode b_Mod_close 104 = .ok (.iload_n 1, 1) := by decide +kernel
theorem d_Mod_close_105 : decode b_Mod_close 105 = .ok (.invokevirtual 186, 3) := by decide +kernel
theorem d_Mod_close_108 : decode b_Mod_close 108 = .ok (.ifCond .ne 6, 3) := by decide +kernel
theorem d_Mod_close_111 : decode b_Mod_close 111 = .ok (.goto 12, 3) := by decide +kernel
theorem d_Mod_close_114 : decode b_Mod_close 114 = .ok (.aload_n 0, 1) := by decide +kernel
theorem d_Mod_close_115 : decode b_Mod_close 115 = .ok (.getfield 71, 3) := by decide +kernel
theorem d_Mod_close_118 : decode b_Mod_close 118 = .ok (.iload_n 3, 1) := by decide +kernel
theorem d_Mod_close_119 : decode b_Mod_close 119 = .ok (.iload_n 1, 1) := by decide +kernel
theorem d_Mod_close_120 : decode b_Mod_close 120 = .ok (.iastore, 1) := by decide +kernel
theorem d_Mod_close_121 : decode b_Mod_close 121 = .ok (.iconst 1, 1) := by decide +kernel
theorem d_Mod_close_122 : decode b_Mod_close 122 = .ok (.istore_n 2, 1) := by decide +kernel
theorem d_Mod_close_123 : decode b_Mod_close 123 = .ok (.iinc 3 1, 3) := by decide +kernel
theorem d_Mod_close_126 : decode b_Mod_close 126 = .ok (.goto (-48), 3) := by decide +kernel
theorem d_Mod_close_129 : decode b_Mod_close 129 = .ok (.iconst 0, 1) := by decide +kernel
theorem d_Mod_close_130 : decode b_Mod_close 130 = .ok (.istore_n 3, 1) := by decide +kernel
theorem d_Mod_close_131 : decode b_Mod_close 131 = .ok (.iload_n 3, 1) := by decide +kernel
theorem d_Mod_close_132 : decode b_Mod_close 132 = .ok (.iconst 2, 1) := by decide +kernel
theorem d_Mod_close_133 : decode b_Mod_close 133 = .ok (.aload_n 0, 1) := by decide +kernel
theorem d_Mod_close_134 : decode b_Mod_close 134 = .ok (.getfield 149, 3) := by decide +kernel
theorem d_Mod_close_137 : decode b_Mod_close 137 = .ok (.imul, 1) := by decide +kernel
theorem d_Mod_close_138 : decode b_Mod_close 138 = .ok (.if_icmp .ge 44, 3) := by decide +kernel
theorem d_Mod_close_141 : decode b_Mod_close 141 = .ok (.aload_n 0, 1) := by decide +kernel
theorem d_Mod_close_142 : decode b_Mod_close 142 = .ok (.getfield 74, 3) := by decide +kernel
theorem d_Mod_close_145 : decode b_Mod_close 145 = .ok (.iload_n 3, 1) := by decide +kernel
theorem d_Mod_close_146 : decode b_Mod_close 146 = .ok (.iaload, 1) := by decide +kernel
theorem d_Mod_close_147 : decode b_Mod_close 147 = .ok (.ifCond .gt 29, 3) := by decide +kernel
theorem d_Mod_close_150 : decode b_Mod_close 150 = .ok (.aload_n 0, 1) := by decide +kernel
theorem d_Mod_close_151 : decode b_Mod_close 151 = .ok (.iload_n 3, 1) := by decide +kernel
theorem d_Mod_close_152 : decode b_Mod_close 152 = .ok (.iconst 2, 1) := by decide +kernel
theorem d_Mod_close_153 : decode b_Mod_close 153 = .ok (.idiv, 1) := by decide +kernel
theorem d_Mod_close_154 : decode b_Mod_close 154 = .ok (.iload_n 3, 1) := by decide +kernel
theorem d_Mod_close_155 : decode b_Mod_close 155 = .ok (.iconst 2, 1) := by decide +kernel
theorem d_Mod_close_156 : decode b_Mod_close 156 = .ok (.irem, 1) := by decide +kernel
theorem d_Mod_close_157 : decode b_Mod_close 157 = .ok (.iload_n 1, 1) := by decide +kernel
theorem d_Mod_close_158 : decode b_Mod_close 158 = .ok (.invokevirtual 190, 3) := by decide +kernel
theorem d_Mod_close_161 : decode b_Mod_close 161 = .ok (.ifCond .ne 6, 3) := by decide +kernel
theorem d_Mod_close_164 : decode b_Mod_close 164 = .ok (.goto 12, 3) := by decide +kernel
theorem d_Mod_close_167 : decode b_Mod_close 167 = .ok (.aload_n 0, 1) := by decide +kernel
theorem d_Mod_close_168 : decode b_Mod_close 168 = .ok (.getfield 74, 3) := by decide +kernel
theorem d_Mod_close_171 : decode b_Mod_close 171 = .ok (.iload_n 3, 1) := by decide +kernel
theorem d_Mod_close_172 : decode b_Mod_close 172 = .ok (.iload_n 1, 1) := by decide +kernel
theorem d_Mod_close_173 : decode b_Mod_close 173 = .ok (.iastore, 1) := by decide +kernel
theorem d_Mod_close_174 : decode b_Mod_close 174 = .ok (.iconst 1, 1) := by decide +kernel
theorem d_Mod_close_175 : decode b_Mod_close 175 = .ok (.istore_n 2, 1) := by decide +kernel
theorem d_Mod_close_176 : decode b_Mod_close 176 = .ok (.iinc 3 1, 3) := by decide +kernel
theorem d_Mod_close_179 : decode b_Mod_close 179 = .ok (.goto (-48), 3) := by decide +kernel
theorem d_Mod_close_182 : decode b_Mod_close 182 = .ok (.iconst 0, 1) := by decide +kernel
theorem d_Mod_close_183 : decode b_Mod_close 183 = .ok (.istore_n 3, 1) := by decide +kernel
theorem d_Mod_close_184 : decode b_Mod_close 184 = .ok (.iload_n 3, 1) := by decide +kernel
theorem d_Mod_close_185 : decode b_Mod_close 185 = .ok (.iconst 2, 1) := by decide +kernel
theorem d_Mod_close_186 : decode b_Mod_close 186 = .ok (.aload_n 0, 1) := by decide +kernel
theorem d_Mod_close_187 : decode b_Mod_close 187 = .ok (.getfield 193, 3) := by decide +kernel
theorem d_Mod_close_190 : decode b_Mod_close 190 = .ok (.imul, 1) := by decide +kernel
theorem d_Mod_close_191 : decode b_Mod_close 191 = .ok (.if_icmp .ge 44, 3) := by decide +kernel
theorem d_Mod_close_194 : decode b_Mod_close 194 = .ok (.aload_n 0, 1) := by decide +kernel
theorem d_Mod_close_195 : decode b_Mod_close 195 = .ok (.getfield 77, 3) := by decide +kernel
theorem d_Mod_close_198 : decode b_Mod_close 198 = .ok (.iload_n 3, 1) := by decide +kernel
theorem d_Mod_close_199 : decode b_Mod_close 199 = .ok (.iaload, 1) := by decide +kernel
theorem d_Mod_close_200 : decode b_Mod_close 200 = .ok (.ifCond .gt 29, 3) := by decide +kernel
theorem d_Mod_close_203 : decode b_Mod_close 203 = .ok (.aload_n 0, 1) := by decide +kernel
theorem d_Mod_close_204 : decode b_Mod_close 204 = .ok (.iload_n 3, 1) := by decide +kernel
theorem d_Mod_close_205 : decode b_Mod_close 205 = .ok (.iconst 2, 1) := by decide +kernel
theorem d_Mod_close_206 : decode b_Mod_close 206 = .ok (.idiv, 1) := by decide +kernel
theorem d_Mod_close_207 : decode b_Mod_close 207 = .ok (.iload_n 3, 1) := by decide +kernel
theorem d_Mod_close_208 : decode b_Mod_close 208 = .ok (.iconst 2, 1) := by decide +kernel
theorem d_Mod_close_209 : decode b_Mod_close 209 = .ok (.irem, 1) := by decide +kernel
theorem d_Mod_close_210 : decode b_Mod_close 210 = .ok (.iload_n 1, 1) := by decide +kernel
theorem d_Mod_close_211 : decode b_Mod_close 211 = .ok (.invokevirtual 196, 3) := by decide +kernel
theorem d_Mod_close_214 : decode b_Mod_close 214 = .ok (.ifCond .ne 6, 3) := by decide +kernel
theorem d_Mod_close_217 : decode b_Mod_close 217 = .ok (.goto 12, 3) := by decide +kernel
theorem d_Mod_close_220 : decode b_Mod_close 220 = .ok (.aload_n 0, 1) := by decide +kernel
theorem d_Mod_close_221 : decode b_Mod_close 221 = .ok (.getfield 77, 3) := by decide +kernel
theorem d_Mod_close_224 : decode b_Mod_close 224 = .ok (.iload_n 3, 1) := by decide +kernel
theorem d_Mod_close_225 : decode b_Mod_close 225 = .ok (.iload_n 1, 1) := by decide +kernel
theorem d_Mod_close_226 : decode b_Mod_close 226 = .ok (.iastore, 1) := by decide +kernel
theorem d_Mod_close_227 : decode b_Mod_close 227 = .ok (.iconst 1, 1) := by decide +kernel
theorem d_Mod_close_228 : decode b_Mod_close 228 = .ok (.istore_n 2, 1) := by decide +kernel
theorem d_Mod_close_229 : decode b_Mod_close 229 = .ok (.iinc 3 1, 3) := by decide +kernel
theorem d_Mod_close_232 : decode b_Mod_close 232 = .ok (.goto (-48), 3) := by decide +kernel
theorem d_Mod_close_235 : decode b_Mod_close 235 = .ok (.goto (-168), 3) := by decide +kernel
theorem d_Mod_close_238 : decode b_Mod_close 238 = .ok (.iload_n 1, 1) := by decide +kernel
theorem d_Mod_close_239 : decode b_Mod_close 239 = .ok (.iconst 1, 1) := by decide +kernel
theorem d_Mod_close_240 : decode b_Mod_close 240 = .ok (.isub, 1) := by decide +kernel
theorem d_Mod_close_241 : decode b_Mod_close 241 = .ok (.ireturn, 1) := by decide +kernel
theorem d_Mod_run_0 : decode b_Mod_run 0 = .ok (.aload_n 0, 1) := by decide +kernel
theorem d_Mod_run_1 : decode b_Mod_run 1 = .ok (.iconst 0, 1) := by decide +kernel
theorem d_Mod_run_2 : decode b_Mod_run 2 = .ok (.putfield 102, 3) := by decide +kernel
theorem d_Mod_run_5 : decode b_Mod_run 5 = .ok (.iload_n 1, 1) := by decide +kernel
theorem d_Mod_run_6 : decode b_Mod_run 6 = .ok (.ifCond .lt 9, 3) := by decide +kernel
theorem d_Mod_run_9 : decode b_Mod_run 9 = .ok (.iload_n 1, 1) := by decide +kernel
theorem d_Mod_run_10 : decode b_Mod_run 10 = .ok (.bipush 8, 2) := by decide +kernel
theorem d_Mod_run_12 : decode b_Mod_run 12 = .ok (.if_icmp .lt 5, 3) := by decide +kernel
theorem d_Mod_run_15 : decode b_Mod_run 15 = .ok (.iconst (-1), 1) := by decide +kernel
theorem d_Mod_run_16 : decode b_Mod_run 16 = .ok (.ireturn, 1) := by decide +kernel
theorem d_Mod_run_17 : decode b_Mod_run 17 = .ok (.aload_n 0, 1) := by decide +kernel
theorem d_Mod_run_18 : decode b_Mod_run 18 = .ok (.iload_n 1, 1) := by decide +kernel
theorem d_Mod_run_19 : decode b_Mod_run 19 = .ok (.putfield 146, 3) := by decide +kernel
theorem d_Mod_run_22 : decode b_Mod_run 22 = .ok (.aload_n 0, 1) := by decide +kernel
theorem d_Mod_run_23 : decode b_Mod_run 23 = .ok (.aload_n 0, 1) := by decide +kernel
theorem d_Mod_run_24 : decode b_Mod_run 24 = .ok (.getfield 105, 3) := by decide +kernel
theorem d_Mod_run_27 : decode b_Mod_run 27 = .ok (.putfield 183, 3) := by decide +kernel
theorem d_Mod_run_30 : decode b_Mod_run 30 = .ok (.aload_n 0, 1) := by decide +kernel
theorem d_Mod_run_31 : decode b_Mod_run 31 = .ok (.aload_n 0, 1) := by decide +kernel
theorem d_Mod_run_32 : decode b_Mod_run 32 = .ok (.getfield 111, 3) := by decide +kernel
theorem d_Mod_run_35 : decode b_Mod_run 35 = .ok (.putfield 193, 3) := by decide +kernel
theorem d_Mod_run_38 : decode b_Mod_run 38 = .ok (.aload_n 0, 1) := by decide +kernel
theorem d_Mod_run_39 : decode b_Mod_run 39 = .ok (.aload_n 0, 1) := by decide +kernel
theorem d_Mod_run_40 : decode b_Mod_run 40 = .ok (.getfield 108, 3) := by decide +kernel
theorem d_Mod_run_43 : decode b_Mod_run 43 = .ok (.putfield 149, 3) := by decide +kernel
theorem d_Mod_run_46 : decode b_Mod_run 46 = .ok (.aload_n 0, 1) := by decide +kernel
theorem d_Mod_run_47 : decode b_Mod_run 47 = .ok (.aload_n 0, 1) := by decide +kernel
theorem d_Mod_run_48 : decode b_Mod_run 48 = .ok (.getfield 133, 3) := by decide +kernel
theorem d_Mod_run_51 : decode b_Mod_run 51 = .ok (.putfield 172, 3) := by decide +kernel
theorem d_Mod_run_54 : decode b_Mod_run 54 = .ok (.aload_n 0, 1) := by decide +kernel
theorem d_Mod_run_55 : decode b_Mod_run 55 = .ok (.aload_n 0, 1) := by decide +kernel
theorem d_Mod_run_56 : decode b_Mod_run 56 = .ok (.getfield 143, 3) := by decide +kernel
theorem d_Mod_run_59 : decode b_Mod_run 59 = .ok (.putfield 162, 3) := by decide +kernel
theorem d_Mod_run_62 : decode b_Mod_run 62 = .ok (.iconst 0, 1) := by decide +kernel
theorem d_Mod_run_63 : decode b_Mod_run 63 = .ok (.istore_n 2, 1) := by decide +kernel
theorem d_Mod_run_64 : decode b_Mod_run 64 = .ok (.iload_n 2, 1) := by decide +kernel
theorem d_Mod_run_65 : decode b_Mod_run 65 = .ok (.bipush 10, 2) := by decide +kernel
theorem d_Mod_run_67 : decode b_Mod_run 67 = .ok (.if_icmp .ge 21, 3) := by decide +kernel
theorem d_Mod_run_70 : decode b_Mod_run 70 = .ok (.aload_n 0, 1) := by decide +kernel
theorem d_Mod_run_71 : decode b_Mod_run 71 = .ok (.getfield 68, 3) := by decide +kernel
theorem d_Mod_run_74 : decode b_Mod_run 74 = .ok (.iload_n 2, 1) := by decide +kernel
theorem d_Mod_run_75 : decode b_Mod_run 75 = .ok (.aload_n 0, 1) := by decide +kernel
theorem d_Mod_run_76 : decode b_Mod_run 76 = .ok (.getfield 13, 3) := by decide +kernel
theorem d_Mod_run_79 : decode b_Mod_run 79 = .ok (.iload_n 2, 1) := by decide +kernel
theorem d_Mod_run_80 : decode b_Mod_run 80 = .ok (.baload, 1) := by decide +kernel
theorem d_Mod_run_81 : decode b_Mod_run 81 = .ok (.bastore, 1) := by decide +kernel
theorem d_Mod_run_82 : decode b_Mod_run 82 = .ok (.iinc 2 1, 3) := by decide +kernel
theorem d_Mod_run_85 : decode b_Mod_run 85 = .ok (.goto (-21), 3) := by decide +kernel
theorem d_Mod_run_88 : decode b_Mod_run 88 = .ok (.aload_n 0, 1) := by decide +kernel
theorem d_Mod_run_89 : decode b_Mod_run 89 = .ok (.iconst 1, 1) := by decide +kernel
theorem d_Mod_run_90 : decode b_Mod_run 90 = .ok (.putfield 199, 3) := by decide +kernel
theorem d_Mod_run_93 : decode b_Mod_run 93 = .ok (.aload_n 0, 1) := by decide +kernel
theorem d_Mod_run_94 : decode b_Mod_run 94 = .ok (.iconst 0, 1) := by decide +kernel
theorem d_Mod_run_95 : decode b_Mod_run 95 = .ok (.putfield 114, 3) := by decide +kernel
theorem d_Mod_run_98 : decode b_Mod_run 98 = .ok (.aload_n 0, 1) := by decide +kernel
theorem d_Mod_run_99 : decode b_Mod_run 99 = .ok (.invokevirtual 202, 3) := by decide +kernel
theorem d_Mod_run_102 : decode b_Mod_run 102 = .ok (.istore_n 2, 1) := by decide +kernel
theorem d_Mod_run_103 : decode b_Mod_run 103 = .ok (.iconst 0, 1) := by decide +kernel
theorem d_Mod_run_104 : decode b_Mod_run 104 = .ok (.istore_n 3, 1) := by decide +kernel
theorem d_Mod_run_105 : decode b_Mod_run 105 = .ok (.iload_n 3, 1) := by decide +kernel
theorem d_Mod_run_106 : decode b_Mod_run 106 = .ok (.bipush 20, 2) := by decide +kernel
theorem d_Mod_run_108 : decode b_Mod_run 108 = .ok (.if_icmp .ge 21, 3) := by decide +kernel
theorem d_Mod_run_111 : decode b_Mod_run 111 = .ok (.aload_n 0, 1) := by decide +kernel
theorem d_Mod_run_112 : decode b_Mod_run 112 = .ok (.getfield 80, 3) := by decide +kernel
theorem d_Mod_run_115 : decode b_Mod_run 115 = .ok (.iload_n 3, 1) := by decide +kernel
theorem d_Mod_run_116 : decode b_Mod_run 116 = .ok (.aload_n 0, 1) := by decide +kernel
theorem d_Mod_run_117 : decode b_Mod_run 117 = .ok (.getfield 71, 3) := by decide +kernel
theorem d_Mod_run_120 : decode b_Mod_run 120 = .ok (.iload_n 3, 1) := by decide +kernel
theorem d_Mod_run_121 : decode b_Mod_run 121 = .ok (.iaload, 1) := by decide +kernel
theorem d_Mod_run_122 : decode b_Mod_run 122 = .ok (.iastore, 1) := by decide +kernel
theorem d_Mod_run_123 : decode b_Mod_run 123 = .ok (.iinc 3 1, 3) := by decide +kernel
theorem d_Mod_run_126 : decode b_Mod_run 126 = .ok (.goto (-21), 3) := by decide +kernel
theorem d_Mod_run_129 : decode b_Mod_run 129 = .ok (.iconst 0, 1) := by decide +kernel
theorem d_Mod_run_130 : decode b_Mod_run 130 = .ok (.istore_n 3, 1) := by decide +kernel
theorem d_Mod_run_131 : decode b_Mod_run 131 = .ok (.iload_n 3, 1) := by decide +kernel
theorem d_Mod_run_132 : decode b_Mod_run 132 = .ok (.bipush 80, 2) := by decide +kernel
theorem d_Mod_run_134 : decode b_Mod_run 134 = .ok (.if_icmp .ge 21, 3) := by decide +kernel
theorem d_Mod_run_137 : decode b_Mod_run 137 = .ok (.aload_n 0, 1) := by decide +kernel
theorem d_Mod_run_138 : decode b_Mod_run 138 = .ok (.getfield 83, 3) := by decide +kernel
theorem d_Mod_run_141 : decode b_Mod_run 141 = .ok (.iload_n 3, 1) := by decide +kernel
theorem d_Mod_run_142 : decode b_Mod_run 142 = .ok (.aload_n 0, 1) := by decide +kernel
theorem d_Mod_run_143 : decode b_Mod_run 143 = .ok (.getfield 74, 3) := by decide +kernel
theorem d_Mod_run_146 : decode b_Mod_run 146 = .ok (.iload_n 3, 1) := by decide +kernel
theorem d_Mod_run_147 : decode b_Mod_run 147 = .ok (.iaload, 1) := by decide +kernel
theorem d_Mod_run_148 : decode b_Mod_run 148 = .ok (.iastore, 1) := by decide +kernel
theorem d_Mod_run_149 : decode b_Mod_run 149 = .ok (.iinc 3 1, 3) := by decide +kernel
theorem d_Mod_run_152 : decode b_Mod_run 152 = .ok (.goto (-21), 3) := by decide +kernel
theorem d_Mod_run_155 : decode b_Mod_run 155 = .ok (.iconst 0, 1) := by decide +kernel
theorem d_Mod_run_156 : decode b_Mod_run 156 = .ok (.istore_n 3, 1) := by decide +kernel
theorem d_Mod_run_157 : decode b_Mod_run 157 = .ok (.iload_n 3, 1) := by decide +kernel
theorem d_Mod_run_158 : decode b_Mod_run 158 = .ok (.bipush 120, 2) := by decide +kernel
theorem d_Mod_run_160 : decode b_Mod_run 160 = .ok (.if_icmp .ge 21, 3) := by decide +kernel
theorem d_Mod_run_163 : decode b_Mod_run 163 = .ok (.aload_n 0, 1) := by decide +kernel
theorem d_Mod_run_164 : decode b_Mod_run 164 = .ok (.getfield 86, 3) := by decide +kernel
theorem d_Mod_run_167 : decode b_Mod_run 167 = .ok (.iload_n 3, 1) := by decide +kernel
theorem d_Mod_run_168 : decode b_Mod_run 168 = .ok (.aload_n 0, 1) := by decide +kernel
theorem d_Mod_run_169 : decode b_Mod_run 169 = .ok (.getfield 77, 3) := by decide +kernel
theorem d_Mod_run_172 : decode b_Mod_run 172 = .ok (.iload_n 3, 1) := by decide +kernel
theorem d_Mod_run_173 : decode b_Mod_run 173 = .ok (.iaload, 1) := by decide +kernel
theorem d_Mod_run_174 : decode b_Mod_run 174 = .ok (.iastore, 1) := by decide +kernel
theorem d_Mod_run_175 : decode b_Mod_run 175 = .ok (.iinc 3 1, 3) := by decide +kernel
theorem d_Mod_run_178 : decode b_Mod_run 178 = .ok (.goto (-21), 3) := by decide +kernel
theorem d_Mod_run_181 : decode b_Mod_run 181 = .ok (.iload_n 2, 1) := by decide +kernel
theorem d_Mod_run_182 : decode b_Mod_run 182 = .ok (.ireturn, 1) := by decide +kernel
theorem d_Mod_isSide_0 : decode b_Mod_isSide 0 = .ok (.iload_n 0, 1) := by decide +kernel
theorem d_Mod_isSide_1 : decode b_Mod_isSide 1 = .ok (.ifCond .eq 8, 3) := by decide +kernel
theorem d_Mod_isSide_4 : decode b_Mod_isSide 4 = .ok (.iload_n 0, 1) := by decide +kernel
theorem d_Mod_isSide_5 : decode b_Mod_isSide 5 = .ok (.iconst 1, 1) := by decide +kernel
theorem d_Mod_isSide_6 : decode b_Mod_isSide 6 = .ok (.if_icmp .ne 7, 3) := by decide +kernel
theorem d_Mod_isSide_9 : decode b_Mod_isSide 9 = .ok (.iconst 1, 1) := by decide +kernel
theorem d_Mod_isSide_10 : decode b_Mod_isSide 10 = .ok (.goto 4, 3) := by decide +kernel
theorem d_Mod_isSide_13 : decode b_Mod_isSide 13 = .ok (.iconst 0, 1) := by decide +kernel
theorem d_Mod_isSide_14 : decode b_Mod_isSide 14 = .ok (.ireturn, 1) := by decide +kernel
theorem d_Mod_there_0 : decode b_Mod_there 0 = .ok (.aload_n 0, 1) := by decide +kernel
theorem d_Mod_there_1 : decode b_Mod_there 1 = .ok (.iconst 0, 1) := by decide +kernel
theorem d_Mod_there_2 : decode b_Mod_there 2 = .ok (.putfield 102, 3) := by decide +kernel
theorem d_Mod_there_5 : decode b_Mod_there 5 = .ok (.iload_n 1, 1) := by decide +kernel
theorem d_Mod_there_6 : decode b_Mod_there 6 = .ok (.ifCond .lt 18, 3) := by decide +kernel
theorem d_Mod_there_9 : decode b_Mod_there 9 = .ok (.iload_n 1, 1) := by decide +kernel
theorem d_Mod_there_10 : decode b_Mod_there 10 = .ok (.aload_n 0, 1) := by decide +kernel
theorem d_Mod_there_11 : decode b_Mod_there 11 = .ok (.getfield 183, 3) := by decide +kernel
theorem d_Mod_there_14 : decode b_Mod_there 14 = .ok (.if_icmp .ge 10, 3) := by decide +kernel
theorem d_Mod_there_17 : decode b_Mod_there 17 = .ok (.iload_n 2, 1) := by decide +kernel
theorem d_Mod_there_18 : decode b_Mod_there 18 = .ok (.invokestatic 206, 3) := by decide +kernel
theorem d_Mod_there_21 : decode b_Mod_there 21 = .ok (.ifCond .ne 7, 3) := by decide +kernel
theorem d_Mod_there_24 : decode b_Mod_there 24 = .ok (.iconst 0, 1) := by decide +kernel
theorem d_Mod_there_25 : decode b_Mod_there 25 = .ok (.goto 13, 3) := by decide +kernel
theorem d_Mod_there_28 : decode b_Mod_there 28 = .ok (.aload_n 0, 1) := by decide +kernel
theorem d_Mod_there_29 : decode b_Mod_there 29 = .ok (.getfield 80, 3) := by decide +kernel
theorem d_Mod_there_32 : decode b_Mod_there 32 = .ok (.iconst 2, 1) := by decide +kernel
theorem d_Mod_there_33 : decode b_Mod_there 33 = .ok (.iload_n 1, 1) := by decide +kernel
theorem d_Mod_there_34 : decode b_Mod_there 34 = .ok (.imul, 1) := by decide +kernel
theorem d_Mod_there_35 : decode b_Mod_there 35 = .ok (.iload_n 2, 1) := by decide +kernel
theorem d_Mod_there_36 : decode b_Mod_there 36 = .ok (.iadd, 1) := by decide +kernel
theorem d_Mod_there_37 : decode b_Mod_there 37 = .ok (.iaload, 1) := by decide +kernel
theorem d_Mod_there_38 : decode b_Mod_there 38 = .ok (.ireturn, 1) := by decide +kernel
theorem d_Mod_live_0 : decode b_Mod_live 0 = .ok (.aload_n 0, 1) := by decide +kernel
theorem d_Mod_live_1 : decode b_Mod_live 1 = .ok (.iconst 0, 1) := by decide +kernel
theorem d_Mod_live_2 : decode b_Mod_live 2 = .ok (.putfield 102, 3) := by decide +kernel
theorem d_Mod_live_5 : decode b_Mod_live 5 = .ok (.iload_n 1, 1) := by decide +kernel
theorem d_Mod_live_6 : decode b_Mod_live 6 = .ok (.ifCond .lt 18, 3) := by decide +kernel
theorem d_Mod_live_9 : decode b_Mod_live 9 = .ok (.iload_n 1, 1) := by decide +kernel
theorem d_Mod_live_10 : decode b_Mod_live 10 = .ok (.aload_n 0, 1) := by decide +kernel
theorem d_Mod_live_11 : decode b_Mod_live 11 = .ok (.getfield 149, 3) := by decide +kernel
theorem d_Mod_live_14 : decode b_Mod_live 14 = .ok (.if_icmp .ge 10, 3) := by decide +kernel
theorem d_Mod_live_17 : decode b_Mod_live 17 = .ok (.iload_n 2, 1) := by decide +kernel
theorem d_Mod_live_18 : decode b_Mod_live 18 = .ok (.invokestatic 206, 3) := by decide +kernel
theorem d_Mod_live_21 : decode b_Mod_live 21 = .ok (.ifCond .ne 7, 3) := by decide +kernel
theorem d_Mod_live_24 : decode b_Mod_live 24 = .ok (.iconst 0, 1) := by decide +kernel
theorem d_Mod_live_25 : decode b_Mod_live 25 = .ok (.goto 13, 3) := by decide +kernel
theorem d_Mod_live_28 : decode b_Mod_live 28 = .ok (.aload_n 0, 1) := by decide +kernel
theorem d_Mod_live_29 : decode b_Mod_live 29 = .ok (.getfield 83, 3) := by decide +kernel
theorem d_Mod_live_32 : decode b_Mod_live 32 = .ok (.iconst 2, 1) := by decide +kernel
theorem d_Mod_live_33 : decode b_Mod_live 33 = .ok (.iload_n 1, 1) := by decide +kernel
theorem d_Mod_live_34 : decode b_Mod_live 34 = .ok (.imul, 1) := by decide +kernel
theorem d_Mod_live_35 : decode b_Mod_live 35 = .ok (.iload_n 2, 1) := by decide +kernel
theorem d_Mod_live_36 : decode b_Mod_live 36 = .ok (.iadd, 1) := by decide +kernel
theorem d_Mod_live_37 : decode b_Mod_live 37 = .ok (.iaload, 1) := by decide +kernel
theorem d_Mod_live_38 : decode b_Mod_live 38 = .ok (.ireturn, 1) := by decide +kernel
theorem d_Mod_on_0 : decode b_Mod_on 0 = .ok (.aload_n 0, 1) := by decide +kernel
theorem d_Mod_on_1 : decode b_Mod_on 1 = .ok (.iconst 0, 1) := by decide +kernel
theorem d_Mod_on_2 : decode b_Mod_on 2 = .ok (.putfield 102, 3) := by decide +kernel
theorem d_Mod_on_5 : decode b_Mod_on 5 = .ok (.iload_n 1, 1) := by decide +kernel
theorem d_Mod_on_6 : decode b_Mod_on 6 = .ok (.ifCond .lt 18, 3) := by decide +kernel
theorem d_Mod_on_9 : decode b_Mod_on 9 = .ok (.iload_n 1, 1) := by decide +kernel
theorem d_Mod_on_10 : decode b_Mod_on 10 = .ok (.aload_n 0, 1) := by decide +kernel
theorem d_Mod_on_11 : decode b_Mod_on 11 = .ok (.getfield 193, 3) := by decide +kernel
theorem d_Mod_on_14 : decode b_Mod_on 14 = .ok (.if_icmp .ge 10, 3) := by decide +kernel
theorem d_Mod_on_17 : decode b_Mod_on 17 = .ok (.iload_n 2, 1) := by decide +kernel
theorem d_Mod_on_18 : decode b_Mod_on 18 = .ok (.invokestatic 206, 3) := by decide +kernel
theorem d_Mod_on_21 : decode b_Mod_on 21 = .ok (.ifCond .ne 7, 3) := by decide +kernel
theorem d_Mod_on_24 : decode b_Mod_on 24 = .ok (.iconst 0, 1) := by decide +kernel
theorem d_Mod_on_25 : decode b_Mod_on 25 = .ok (.goto 13, 3) := by decide +kernel
theorem d_Mod_on_28 : decode b_Mod_on 28 = .ok (.aload_n 0, 1) := by decide +kernel
theorem d_Mod_on_29 : decode b_Mod_on 29 = .ok (.getfield 86, 3) := by decide +kernel
theorem d_Mod_on_32 : decode b_Mod_on 32 = .ok (.iconst 2, 1) := by decide +kernel
theorem d_Mod_on_33 : decode b_Mod_on 33 = .ok (.iload_n 1, 1) := by decide +kernel
theorem d_Mod_on_34 : decode b_Mod_on 34 = .ok (.imul, 1) := by decide +kernel
theorem d_Mod_on_35 : decode b_Mod_on 35 = .ok (.iload_n 2, 1) := by decide +kernel
theorem d_Mod_on_36 : decode b_Mod_on 36 = .ok (.iadd, 1) := by decide +kernel
theorem d_Mod_on_37 : decode b_Mod_on 37 = .ok (.iaload, 1) := by decide +kernel
theorem d_Mod_on_38 : decode b_Mod_on 38 = .ok (.ireturn, 1) := by decide +kernel
