theorem d_Law_law_0 : decode b_Law_law 0 = .ok (.new 7, 3) := by decide +kernel
theorem d_Law_law_3 : decode b_Law_law 3 = .ok (.dup, 1) := by decide +kernel
theorem d_Law_law_4 : decode b_Law_law 4 = .ok (.invokespecial 9, 3) := by decide +kernel
theorem d_Law_law_7 : decode b_Law_law 7 = .ok (.astore_n 1, 1) := by decide +kernel
theorem d_Law_law_8 : decode b_Law_law 8 = .ok (.new 10, 3) := by decide +kernel
theorem d_Law_law_11 : decode b_Law_law 11 = .ok (.dup, 1) := by decide +kernel
theorem d_Law_law_12 : decode b_Law_law 12 = .ok (.invokespecial 12, 3) := by decide +kernel
theorem d_Law_law_15 : decode b_Law_law 15 = .ok (.astore_n 2, 1) := by decide +kernel
theorem d_Law_law_16 : decode b_Law_law 16 = .ok (.iconst 0, 1) := by decide +kernel
theorem d_Law_law_17 : decode b_Law_law 17 = .ok (.istore_n 3, 1) := by decide +kernel
theorem d_Law_law_18 : decode b_Law_law 18 = .ok (.iload_n 3, 1) := by decide +kernel
theorem d_Law_law_19 : decode b_Law_law 19 = .ok (.aload_n 0, 1) := by decide +kernel
theorem d_Law_law_20 : decode b_Law_law 20 = .ok (.arraylength, 1) := by decide +kernel
theorem d_Law_law_21 : decode b_Law_law 21 = .ok (.bipush 7, 2) := by decide +kernel
theorem d_Law_law_23 : decode b_Law_law 23 = .ok (.isub, 1) := by decide +kernel
theorem d_Law_law_24 : decode b_Law_law 24 = .ok (.if_icmp .gt 753, 3) := by decide +kernel
theorem d_Law_law_27 : decode b_Law_law 27 = .ok (.aload_n 0, 1) := by decide +kernel
theorem d_Law_law_28 : decode b_Law_law 28 = .ok (.iload_n 3, 1) := by decide +kernel
theorem d_Law_law_29 : decode b_Law_law 29 = .ok (.iaload, 1) := by decide +kernel
theorem d_Law_law_30 : decode b_Law_law 30 = .ok (.bipush 15, 2) := by decide +kernel
theorem d_Law_law_32 : decode b_Law_law 32 = .ok (.iand, 1) := by decide +kernel
theorem d_Law_law_33 : decode b_Law_law 33 = .ok (.tableswitch 738 0 14 #[75, 114, 183, 232, 355, 388, 441, 464, 497, 530, 563, 596, 649, 682, 715], 75) := by decide +kernel
theorem d_Law_law_108 : decode b_Law_law 108 = .ok (.aload_n 1, 1) := by decide +kernel
theorem d_Law_law_109 : decode b_Law_law 109 = .ok (.aload_n 0, 1) := by decide +kernel
theorem d_Law_law_110 : decode b_Law_law 110 = .ok (.iload_n 3, 1) := by decide +kernel
theorem d_Law_law_111 : decode b_Law_law 111 = .ok (.iconst 1, 1) := by decide +kernel
theorem d_Law_law_112 : decode b_Law_law 112 = .ok (.iadd, 1) := by decide +kernel
theorem d_Law_law_113 : decode b_Law_law 113 = .ok (.iaload, 1) := by decide +kernel
theorem d_Law_law_114 : decode b_Law_law 114 = .ok (.ifCond .eq 7, 3) := by decide +kernel
theorem d_Law_law_117 : decode b_Law_law 117 = .ok (.iconst 1, 1) := by decide +kernel
theorem d_Law_law_118 : decode b_Law_law 118 = .ok (.goto 4, 3) := by decide +kernel
theorem d_Law_law_121 : decode b_Law_law 121 = .ok (.iconst 0, 1) := by decide +kernel
theorem d_Law_law_122 : decode b_Law_law 122 = .ok (.invokevirtual 13, 3) := by decide +kernel
theorem d_Law_law_125 : decode b_Law_law 125 = .ok (.aload_n 2, 1) := by decide +kernel
theorem d_Law_law_126 : decode b_Law_law 126 = .ok (.aload_n 0, 1) := by decide +kernel
theorem d_Law_law_127 : decode b_Law_law 127 = .ok (.iload_n 3, 1) := by decide +kernel
theorem d_Law_law_128 : decode b_Law_law 128 = .ok (.iconst 1, 1) := by decide +kernel
theorem d_Law_law_129 : decode b_Law_law 129 = .ok (.iadd, 1) := by decide +kernel
theorem d_Law_law_130 : decode b_Law_law 130 = .ok (.iaload, 1) := by decide +kernel
theorem d_Law_law_131 : decode b_Law_law 131 = .ok (.ifCond .eq 7, 3) := by decide +kernel
theorem d_Law_law_134 : decode b_Law_law 134 = .ok (.iconst 1, 1) := by decide +kernel
theorem d_Law_law_135 : decode b_Law_law 135 = .ok (.goto 4, 3) := by decide +kernel
theorem d_Law_law_138 : decode b_Law_law 138 = .ok (.iconst 0, 1) := by decide +kernel
theorem d_Law_law_139 : decode b_Law_law 139 = .ok (.invokevirtual 17, 3) := by decide +kernel
theorem d_Law_law_142 : decode b_Law_law 142 = .ok (.if_icmp .eq 629, 3) := by decide +kernel
theorem d_Law_law_145 : decode b_Law_law 145 = .ok (.iconst 0, 1) := by decide +kernel
theorem d_Law_law_146 : decode b_Law_law 146 = .ok (.ireturn, 1) := by decide +kernel
theorem d_Law_law_147 : decode b_Law_law 147 = .ok (.aload_n 1, 1) := by decide +kernel
theorem d_Law_law_148 : decode b_Law_law 148 = .ok (.aload_n 0, 1) := by decide +kernel
theorem d_Law_law_149 : decode b_Law_law 149 = .ok (.iload_n 3, 1) := by decide +kernel
theorem d_Law_law_150 : decode b_Law_law 150 = .ok (.iconst 1, 1) := by decide +kernel
theorem d_Law_law_151 : decode b_Law_law 151 = .ok (.iadd, 1) := by decide +kernel
theorem d_Law_law_152 : decode b_Law_law 152 = .ok (.iaload, 1) := by decide +kernel
theorem d_Law_law_153 : decode b_Law_law 153 = .ok (.aload_n 0, 1) := by decide +kernel
theorem d_Law_law_154 : decode b_Law_law 154 = .ok (.iload_n 3, 1) := by decide +kernel
theorem d_Law_law_155 : decode b_Law_law 155 = .ok (.iconst 2, 1) := by decide +kernel
theorem d_Law_law_156 : decode b_Law_law 156 = .ok (.iadd, 1) := by decide +kernel
theorem d_Law_law_157 : decode b_Law_law 157 = .ok (.iaload, 1) := by decide +kernel
theorem d_Law_law_158 : decode b_Law_law 158 = .ok (.aload_n 0, 1) := by decide +kernel
theorem d_Law_law_159 : decode b_Law_law 159 = .ok (.iload_n 3, 1) := by decide +kernel
theorem d_Law_law_160 : decode b_Law_law 160 = .ok (.iconst 3, 1) := by decide +kernel
theorem d_Law_law_161 : decode b_Law_law 161 = .ok (.iadd, 1) := by decide +kernel
theorem d_Law_law_162 : decode b_Law_law 162 = .ok (.iaload, 1) := by decide +kernel
theorem d_Law_law_163 : decode b_Law_law 163 = .ok (.ifCond .eq 7, 3) := by decide +kernel
theorem d_Law_law_166 : decode b_Law_law 166 = .ok (.iconst 1, 1) := by decide +kernel
theorem d_Law_law_167 : decode b_Law_law 167 = .ok (.goto 4, 3) := by decide +kernel
theorem d_Law_law_170 : decode b_Law_law 170 = .ok (.iconst 0, 1) := by decide +kernel
theorem d_Law_law_171 : decode b_Law_law 171 = .ok (.aload_n 0, 1) := by decide +kernel
theorem d_Law_law_172 : decode b_Law_law 172 = .ok (.iload_n 3, 1) := by decide +kernel
theorem d_Law_law_173 : decode b_Law_law 173 = .ok (.iconst 4, 1) := by decide +kernel
theorem d_Law_law_174 : decode b_Law_law 174 = .ok (.iadd, 1) := by decide +kernel
theorem d_Law_law_175 : decode b_Law_law 175 = .ok (.iaload, 1) := by decide +kernel
theorem d_Law_law_176 : decode b_Law_law 176 = .ok (.invokevirtual 18, 3) := by decide +kernel
theorem d_Law_law_179 : decode b_Law_law 179 = .ok (.aload_n 2, 1) := by decide +kernel
theorem d_Law_law_180 : decode b_Law_law 180 = .ok (.aload_n 0, 1) := by decide +kernel
theorem d_Law_law_181 : decode b_Law_law 181 = .ok (.iload_n 3, 1) := by decide +kernel
theorem d_Law_law_182 : decode b_Law_law 182 = .ok (.iconst 1, 1) := by decide +kernel
theorem d_Law_law_183 : decode b_Law_law 183 = .ok (.iadd, 1) := by decide +kernel
theorem d_Law_law_184 : decode b_Law_law 184 = .ok (.iaload, 1) := by decide +kernel
theorem d_Law_law_185 : decode b_Law_law 185 = .ok (.aload_n 0, 1) := by decide +kernel
theorem d_Law_law_186 : decode b_Law_law 186 = .ok (.iload_n 3, 1) := by decide +kernel
theorem d_Law_law_187 : decode b_Law_law 187 = .ok (.iconst 2, 1) := by decide +kernel
theorem d_Law_law_188 : decode b_Law_law 188 = .ok (.iadd, 1) := by decide +kernel
theorem d_Law_law_189 : decode b_Law_law 189 = .ok (.iaload, 1) := by decide +kernel
theorem d_Law_law_190 : decode b_Law_law 190 = .ok (.aload_n 0, 1) := by decide +kernel
theorem d_Law_law_191 : decode b_Law_law 191 = .ok (.iload_n 3, 1) := by decide +kernel
theorem d_Law_law_192 : decode b_Law_law 192 = .ok (.iconst 3, 1) := by decide +kernel
theorem d_Law_law_193 : decode b_Law_law 193 = .ok (.iadd, 1) := by decide +kernel
theorem d_Law_law_194 : decode b_Law_law 194 = .ok (.iaload, 1) := by decide +kernel
theorem d_Law_law_195 : decode b_Law_law 195 = .ok (.ifCond .eq 7, 3) := by decide +kernel
theorem d_Law_law_198 : decode b_Law_law 198 = .ok (.iconst 1, 1) := by decide +kernel
theorem d_Law_law_199 : decode b_Law_law 199 = .ok (.goto 4, 3) := by decide +kernel
theorem d_Law_law_202 : decode b_Law_law 202 = .ok (.iconst 0, 1) := by decide +kernel
theorem d_Law_law_203 : decode b_Law_law 203 = .ok (.aload_n 0, 1) := by decide +kernel
theorem d_Law_law_204 : decode b_Law_law 204 = .ok (.iload_n 3, 1) := by decide +kernel
theorem d_Law_law_205 : decode b_Law_law 205 = .ok (.iconst 4, 1) := by decide +kernel
theorem d_Law_law_206 : decode b_Law_law 206 = .ok (.iadd, 1) := by decide +kernel
theorem d_Law_law_207 : decode b_Law_law 207 = .ok (.iaload, 1) := by decide +kernel
theorem d_Law_law_208 : decode b_Law_law 208 = .ok (.invokevirtual 22, 3) := by decide +kernel
theorem d_Law_law_211 : decode b_Law_law 211 = .ok (.if_icmp .eq 560, 3) := by decide +kernel
theorem d_Law_law_214 : decode b_Law_law 214 = .ok (.iconst 0, 1) := by decide +kernel
theorem d_Law_law_215 : decode b_Law_law 215 = .ok (.ireturn, 1) := by decide +kernel
theorem d_Law_law_216 : decode b_Law_law 216 = .ok (.aload_n 1, 1) := by decide +kernel
theorem d_Law_law_217 : decode b_Law_law 217 = .ok (.aload_n 0, 1) := by decide +kernel
theorem d_Law_law_218 : decode b_Law_law 218 = .ok (.iload_n 3, 1) := by decide +kernel
theorem d_Law_law_219 : decode b_Law_law 219 = .ok (.iconst 1, 1) := by decide +kernel
theorem d_Law_law_220 : decode b_Law_law 220 = .ok (.iadd, 1) := by decide +kernel
theorem d_Law_law_221 : decode b_Law_law 221 = .ok (.iaload, 1) := by decide +kernel
theorem d_Law_law_222 : decode b_Law_law 222 = .ok (.aload_n 0, 1) := by decide +kernel
theorem d_Law_law_223 : decode b_Law_law 223 = .ok (.iload_n 3, 1) := by decide +kernel
theorem d_Law_law_224 : decode b_Law_law 224 = .ok (.iconst 2, 1) := by decide +kernel
theorem d_Law_law_225 : decode b_Law_law 225 = .ok (.iadd, 1) := by decide +kernel
theorem d_Law_law_226 : decode b_Law_law 226 = .ok (.iaload, 1) := by decide +kernel
theorem d_Law_law_227 : decode b_Law_law 227 = .ok (.ifCond .eq 7, 3) := by decide +kernel
theorem d_Law_law_230 : decode b_Law_law 230 = .ok (.iconst 1, 1) := by decide +kernel
theorem d_Law_law_231 : decode b_Law_law 231 = .ok (.goto 4, 3) := by decide +kernel
theorem d_Law_law_234 : decode b_Law_law 234 = .ok (.iconst 0, 1) := by decide +kernel
theorem d_Law_law_235 : decode b_Law_law 235 = .ok (.invokevirtual 23, 3) := by decide +kernel
theorem d_Law_law_238 : decode b_Law_law 238 = .ok (.aload_n 2, 1) := by decide +kernel
theorem d_Law_law_239 : decode b_Law_law 239 = .ok (.aload_n 0, 1) := by decide +kernel
theorem d_Law_law_240 : decode b_Law_law 240 = .ok (.iload_n 3, 1) := by decide +kernel
theorem d_Law_law_241 : decode b_Law_law 241 = .ok (.iconst 1, 1) := by decide +kernel
theorem d_Law_law_242 : decode b_Law_law 242 = .ok (.iadd, 1) := by decide +kernel
theorem d_Law_law_243 : decode b_Law_law 243 = .ok (.iaload, 1) := by decide +kernel
theorem d_Law_law_244 : decode b_Law_law 244 = .ok (.aload_n 0, 1) := by decide +kernel
theorem d_Law_law_245 : decode b_Law_law 245 = .ok (.iload_n 3, 1) := by decide +kernel
theorem d_Law_law_246 : decode b_Law_law 246 = .ok (.iconst 2, 1) := by decide +kernel
theorem d_Law_law_247 : decode b_Law_law 247 = .ok (.iadd, 1) := by decide +kernel
theorem d_Law_law_248 : decode b_Law_law 248 = .ok (.iaload, 1) := by decide +kernel
theorem d_Law_law_249 : decode b_Law_law 249 = .ok (.ifCond .eq 7, 3) := by decide +kernel
theorem d_Law_law_252 : decode b_Law_law 252 = .ok (.iconst 1, 1) := by decide +kernel
theorem d_Law_law_253 : decode b_Law_law 253 = .ok (.goto 4, 3) := by decide +kernel
theorem d_Law_law_256 : decode b_Law_law 256 = .ok (.iconst 0, 1) := by decide +kernel
theorem d_Law_law_257 : decode b_Law_law 257 = .ok (.invokevirtual 27, 3) := by decide +kernel
theorem d_Law_law_260 : decode b_Law_law 260 = .ok (.if_icmp .eq 511, 3) := by decide +kernel
theorem d_Law_law_263 : decode b_Law_law 263 = .ok (.iconst 0, 1) := by decide +kernel
theorem d_Law_law_264 : decode b_Law_law 264 = .ok (.ireturn, 1) := by decide +kernel
theorem d_Law_law_265 : decode b_Law_law 265 = .ok (.aload_n 1, 1) := by decide +kernel
theorem d_Law_law_266 : decode b_Law_law 266 = .ok (.aload_n 0, 1) := by decide +kernel
theorem d_Law_law_267 : decode b_Law_law 267 = .ok (.iload_n 3, 1) := by decide +kernel
theorem d_Law_law_268 : decode b_Law_law 268 = .ok (.iconst 1, 1) := by decide +kernel
theorem d_Law_law_269 : decode b_Law_law 269 = .ok (.iadd, 1) := by decide +kernel
theorem d_Law_law_270 : decode b_Law_law 270 = .ok (.iaload, 1) := by decide +kernel
theorem d_Law_law_271 : decode b_Law_law 271 = .ok (.aload_n 0, 1) := by decide +kernel
theorem d_Law_law_272 : decode b_Law_law 272 = .ok (.iload_n 3, 1) := by decide +kernel
theorem d_Law_law_273 : decode b_Law_law 273 = .ok (.iconst 2, 1) := by decide +kernel
theorem d_Law_law_274 : decode b_Law_law 274 = .ok (.iadd, 1) := by decide +kernel
theorem d_Law_law_275 : decode b_Law_law 275 = .ok (.iaload, 1) := by decide +kernel
theorem d_Law_law_276 : decode b_Law_law 276 = .ok (.aload_n 0, 1) := by decide +kernel
theorem d_Law_law_277 : decode b_Law_law 277 = .ok (.iload_n 3, 1) := by decide +kernel
theorem d_Law_law_278 : decode b_Law_law 278 = .ok (.iconst 3, 1) := by decide +kernel
theorem d_Law_law_279 : decode b_Law_law 279 = .ok (.iadd, 1) := by decide +kernel
theorem d_Law_law_280 : decode b_Law_law 280 = .ok (.iaload, 1) := by decide +kernel
theorem d_Law_law_281 : decode b_Law_law 281 = .ok (.ifCond .eq 7, 3) := by decide +kernel
theorem d_Law_law_284 : decode b_Law_law 284 = .ok (.iconst 1, 1) := by decide +kernel
theorem d_Law_law_285 : decode b_Law_law 285 = .ok (.goto 4, 3) := by decide +kernel
theorem d_Law_law_288 : decode b_Law_law 288 = .ok (.iconst 0, 1) := by decide +kernel
theorem d_Law_law_289 : decode b_Law_law 289 = .ok (.aload_n 0, 1) := by decide +kernel
theorem d_Law_law_290 : decode b_Law_law 290 = .ok (.iload_n 3, 1) := by decide +kernel
theorem d_Law_law_291 : decode b_Law_law 291 = .ok (.iconst 4, 1) := by decide +kernel
theorem d_Law_law_292 : decode b_Law_law 292 = .ok (.iadd, 1) := by decide +kernel
theorem d_Law_law_293 : decode b_Law_law 293 = .ok (.iaload, 1) := by decide +kernel
theorem d_Law_law_294 : decode b_Law_law 294 = .ok (.ifCond .eq 7, 3) := by decide +kernel
theorem d_Law_law_297 : decode b_Law_law 297 = .ok (.iconst 1, 1) := by decide +kernel
theorem d_Law_law_298 : decode b_Law_law 298 = .ok (.goto 4, 3) := by decide +kernel
theorem d_Law_law_301 : decode b_Law_law 301 = .ok (.iconst 0, 1) := by decide +kernel
theorem d_Law_law_302 : decode b_Law_law 302 = .ok (.aload_n 0, 1) := by decide +kernel
theorem d_Law_law_303 : decode b_Law_law 303 = .ok (.iload_n 3, 1) := by decide +kernel
theorem d_Law_law_304 : decode b_Law_law 304 = .ok (.iconst 5, 1) := by decide +kernel
theorem d_Law_law_305 : decode b_Law_law 305 = .ok (.iadd, 1) := by decide +kernel
theorem d_Law_law_306 : decode b_Law_law 306 = .ok (.iaload, 1) := by decide +kernel
theorem d_Law_law_307 : decode b_Law_law 307 = .ok (.ifCond .eq 7, 3) := by decide +kernel
theorem d_Law_law_310 : decode b_Law_law 310 = .ok (.iconst 1, 1) := by decide +kernel
theorem d_Law_law_311 : decode b_Law_law 311 = .ok (.goto 4, 3) := by decide +kernel
theorem d_Law_law_314 : decode b_Law_law 314 = .ok (.iconst 0, 1) := by decide +kernel
theorem d_Law_law_315 : decode b_Law_law 315 = .ok (.aload_n 0, 1) := by decide +kernel
theorem d_Law_law_316 : decode b_Law_law 316 = .ok (.iload_n 3, 1) := by decide +kernel
theorem d_Law_law_317 : decode b_Law_law 317 = .ok (.bipush 6, 2) := by decide +kernel
theorem d_Law_law_319 : decode b_Law_law 319 = .ok (.iadd, 1) := by decide +kernel
theorem d_Law_law_320 : decode b_Law_law 320 = .ok (.iaload, 1) := by decide +kernel
theorem d_Law_law_321 : decode b_Law_law 321 = .ok (.invokevirtual 28, 3) := by decide +kernel
theorem d_Law_law_324 : decode b_Law_law 324 = .ok (.aload_n 2, 1) := by decide +kernel
theorem d_Law_law_325 : decode b_Law_law 325 = .ok (.aload_n 0, 1) := by decide +kernel
theorem d_Law_law_326 : decode b_Law_law 326 = .ok (.iload_n 3, 1) := by decide +kernel
theorem d_Law_law_327 : decode b_Law_law 327 = .ok (.iconst 1, 1) := by decide +kernel
theorem d_Law_law_328 : decode b_Law_law 328 = .ok (.iadd, 1) := by decide +kernel
theorem d_Law_law_329 : decode b_Law_law 329 = .ok (.iaload, 1) := by decide +kernel
theorem d_Law_law_330 : decode b_Law_law 330 = .ok (.aload_n 0, 1) := by decide +kernel
theorem d_Law_law_331 : decode b_Law_law 331 = .ok (.iload_n 3, 1) := by decide +kernel
theorem d_Law_law_332 : decode b_Law_law 332 = .ok (.iconst 2, 1) := by decide +kernel
theorem d_Law_law_333 : decode b_Law_law 333 = .ok (.iadd, 1) := by decide +kernel
theorem d_Law_law_334 : decode b_Law_law 334 = .ok (.iaload, 1) := by decide +kernel
theorem d_Law_law_335 : decode b_Law_law 335 = .ok (.aload_n 0, 1) := by decide +kernel
theorem d_Law_law_336 : decode b_Law_law 336 = .ok (.iload_n 3, 1) := by decide +kernel
theorem d_Law_law_337 : decode b_Law_law 337 = .ok (.iconst 3, 1) := by decide +kernel
theorem d_Law_law_338 : decode b_Law_law 338 = .ok (.iadd, 1) := by decide +kernel
theorem d_Law_law_339 : decode b_Law_law 339 = .ok (.iaload, 1) := by decide +kernel
theorem d_Law_law_340 : decode b_Law_law 340 = .ok (.ifCond .eq 7, 3) := by decide +kernel
theorem d_Law_law_343 : decode b_Law_law 343 = .ok (.iconst 1, 1) := by decide +kernel
theorem d_Law_law_344 : decode b_Law_law 344 = .ok (.goto 4, 3) := by decide +kernel
theorem d_Law_law_347 : decode b_Law_law 347 = .ok (.iconst 0, 1) := by decide +kernel
theorem d_Law_law_348 : decode b_Law_law 348 = .ok (.aload_n 0, 1) := by decide +kernel
theorem d_Law_law_349 : decode b_Law_law 349 = .ok (.iload_n 3, 1) := by decide +kernel
theorem d_Law_law_350 : decode b_Law_law 350 = .ok (.iconst 4, 1) := by decide +kernel
theorem d_Law_law_351 : decode b_Law_law 351 = .ok (.iadd, 1) := by decide +kernel
theorem d_Law_law_352 : decode b_Law_law 352 = .ok (.iaload, 1) := by decide +kernel
theorem d_Law_law_353 : decode b_Law_law 353 = .ok (.ifCond .eq 7, 3) := by decide +kernel
theorem d_Law_law_356 : decode b_Law_law 356 = .ok (.iconst 1, 1) := by decide +kernel
theorem d_Law_law_357 : decode b_Law_law 357 = .ok (.goto 4, 3) := by decide +kernel
theorem d_Law_law_360 : decode b_Law_law 360 = .ok (.iconst 0, 1) := by decide +kernel
theorem d_Law_law_361 : decode b_Law_law 361 = .ok (.aload_n 0, 1) := by decide +kernel
theorem d_Law_law_362 : decode b_Law_law 362 = .ok (.iload_n 3, 1) := by decide +kernel
theorem d_Law_law_363 : decode b_Law_law 363 = .ok (.iconst 5, 1) := by decide +kernel
theorem d_Law_law_364 : decode b_Law_law 364 = .ok (.iadd, 1) := by decide +kernel
theorem d_Law_law_365 : decode b_Law_law 365 = .ok (.iaload, 1) := by decide +kernel
theorem d_Law_law_366 : decode b_Law_law 366 = .ok (.ifCond .eq 7, 3) := by decide +kernel
theorem d_Law_law_369 : decode b_Law_law 369 = .ok (.iconst 1, 1) := by decide +kernel
theorem d_Law_law_370 : decode b_Law_law 370 = .ok (.goto 4, 3) := by decide +kernel
theorem d_Law_law_373 : decode b_Law_law 373 = .ok (.iconst 0, 1) := by decide +kernel
theorem d_Law_law_374 : decode b_Law_law 374 = .ok (.aload_n 0, 1) := by decide +kernel
theorem d_Law_law_375 : decode b_Law_law 375 = .ok (.iload_n 3, 1) := by decide +kernel
theorem d_Law_law_376 : decode b_Law_law 376 = .ok (.bipush 6, 2) := by decide +kernel
theorem d_Law_law_378 : decode b_Law_law 378 = .ok (.iadd, 1) := by decide +kernel
theorem d_Law_law_379 : decode b_Law_law 379 = .ok (.iaload, 1) := by decide +kernel
theorem d_Law_law_380 : decode b_Law_law 380 = .ok (.invokevirtual 32, 3) := by decide +kernel
theorem d_Law_law_383 : decode b_Law_law 383 = .ok (.if_icmp .eq 388, 3) := by decide +kernel
theorem d_Law_law_386 : decode b_Law_law 386 = .ok (.iconst 0, 1) := by decide +kernel
theorem d_Law_law_387 : decode b_Law_law 387 = .ok (.ireturn, 1) := by decide +kernel
theorem d_Law_law_388 : decode b_Law_law 388 = .ok (.aload_n 1, 1) := by decide +kernel
theorem d_Law_law_389 : decode b_Law_law 389 = .ok (.aload_n 0, 1) := by decide +kernel
theorem d_Law_law_390 : decode b_Law_law 390 = .ok (.iload_n 3, 1) := by decide +kernel
theorem d_Law_law_391 : decode b_Law_law 391 = .ok (.iconst 1, 1) := by decide +kernel
theorem d_Law_law_392 : decode b_Law_law 392 = .ok (.iadd, 1) := by decide +kernel
theorem d_Law_law_393 : decode b_Law_law 393 = .ok (.iaload, 1) := by decide +kernel
theorem d_Law_law_394 : decode b_Law_law 394 = .ok (.aload_n 0, 1) := by decide +kernel
theorem d_Law_law_395 : decode b_Law_law 395 = .ok (.iload_n 3, 1) := by decide +kernel
theorem d_Law_law_396 : decode b_Law_law 396 = .ok (.iconst 2, 1) := by decide +kernel
theorem d_Law_law_397 : decode b_Law_law 397 = .ok (.iadd, 1) := by decide +kernel
theorem d_Law_law_398 : decode b_Law_law 398 = .ok (.iaload, 1) := by decide +kernel
theorem d_Law_law_399 : decode b_Law_law 399 = .ok (.invokevirtual 33, 3) := by decide +kernel
theorem d_Law_law_402 : decode b_Law_law 402 = .ok (.aload_n 2, 1) := by decide +kernel
theorem d_Law_law_403 : decode b_Law_law 403 = .ok (.aload_n 0, 1) := by decide +kernel
theorem d_Law_law_404 : decode b_Law_law 404 = .ok (.iload_n 3, 1) := by decide +kernel
theorem d_Law_law_405 : decode b_Law_law 405 = .ok (.iconst 1, 1) := by decide +kernel
theorem d_Law_law_406 : decode b_Law_law 406 = .ok (.iadd, 1) := by decide +kernel
theorem d_Law_law_407 : decode b_Law_law 407 = .ok (.iaload, 1) := by decide +kernel
theorem d_Law_law_408 : decode b_Law_law 408 = .ok (.aload_n 0, 1) := by decide +kernel
theorem d_Law_law_409 : decode b_Law_law 409 = .ok (.iload_n 3, 1) := by decide +kernel
theorem d_Law_law_410 : decode b_Law_law 410 = .ok (.iconst 2, 1) := by decide +kernel
theorem d_Law_law_411 : decode b_Law_law 411 = .ok (.iadd, 1) := by decide +kernel
theorem d_Law_law_412 : decode b_Law_law 412 = .ok (.iaload, 1) := by decide +kernel
theorem d_Law_law_413 : decode b_Law_law 413 = .ok (.invokevirtual 37, 3) := by decide +kernel
theorem d_Law_law_416 : decode b_Law_law 416 = .ok (.if_icmp .eq 355, 3) := by decide +kernel
theorem d_Law_law_419 : decode b_Law_law 419 = .ok (.iconst 0, 1) := by decide +kernel
theorem d_Law_law_420 : decode b_Law_law 420 = .ok (.ireturn, 1) := by decide +kernel
theorem d_Law_law_421 : decode b_Law_law 421 = .ok (.aload_n 1, 1) := by decide +kernel
theorem d_Law_law_422 : decode b_Law_law 422 = .ok (.aload_n 0, 1) := by decide +kernel
theorem d_Law_law_423 : decode b_Law_law 423 = .ok (.iload_n 3, 1) := by decide +kernel
theorem d_Law_law_424 : decode b_Law_law 424 = .ok (.iconst 1, 1) := by decide +kernel
theorem d_Law_law_425 : decode b_Law_law 425 = .ok (.iadd, 1) := by decide +kernel
theorem d_Law_law_426 : decode b_Law_law 426 = .ok (.iaload, 1) := by decide +kernel
theorem d_Law_law_427 : decode b_Law_law 427 = .ok (.aload_n 0, 1) := by decide +kernel
theorem d_Law_law_428 : decode b_Law_law 428 = .ok (.iload_n 3, 1) := by decide +kernel
theorem d_Law_law_429 : decode b_Law_law 429 = .ok (.iconst 2, 1) := by decide +kernel
theorem d_Law_law_430 : decode b_Law_law 430 = .ok (.iadd, 1) := by decide +kernel
theorem d_Law_law_431 : decode b_Law_law 431 = .ok (.iaload, 1) := by decide +kernel
theorem d_Law_law_432 : decode b_Law_law 432 = .ok (.aload_n 0, 1) := by decide +kernel
theorem d_Law_law_433 : decode b_Law_law 433 = .ok (.iload_n 3, 1) := by decide +kernel
theorem d_Law_law_434 : decode b_Law_law 434 = .ok (.iconst 3, 1) := by decide +kernel
theorem d_Law_law_435 : decode b_Law_law 435 = .ok (.iadd, 1) := by decide +kernel
theorem d_Law_law_436 : decode b_Law_law 436 = .ok (.iaload, 1) := by decide +kernel
theorem d_Law_law_437 : decode b_Law_law 437 = .ok (.aload_n 0, 1) := by decide +kernel
theorem d_Law_law_438 : decode b_Law_law 438 = .ok (.iload_n 3, 1) := by decide +kernel
theorem d_Law_law_439 : decode b_Law_law 439 = .ok (.iconst 4, 1) := by decide +kernel
theorem d_Law_law_440 : decode b_Law_law 440 = .ok (.iadd, 1) := by decide +kernel
theorem d_Law_law_441 : decode b_Law_law 441 = .ok (.iaload, 1) := by decide +kernel
theorem d_Law_law_442 : decode b_Law_law 442 = .ok (.invokevirtual 38, 3) := by decide +kernel
theorem d_Law_law_445 : decode b_Law_law 445 = .ok (.aload_n 2, 1) := by decide +kernel
theorem d_Law_law_446 : decode b_Law_law 446 = .ok (.aload_n 0, 1) := by decide +kernel
theorem d_Law_law_447 : decode b_Law_law 447 = .ok (.iload_n 3, 1) := by decide +kernel
theorem d_Law_law_448 : decode b_Law_law 448 = .ok (.iconst 1, 1) := by decide +kernel
theorem d_Law_law_449 : decode b_Law_law 449 = .ok (.iadd, 1) := by decide +kernel
theorem d_Law_law_450 : decode b_Law_law 450 = .ok (.iaload, 1) := by decide +kernel
theorem d_Law_law_451 : decode b_Law_law 451 = .ok (.aload_n 0, 1) := by decide +kernel
theorem d_Law_law_452 : decode b_Law_law 452 = .ok (.iload_n 3, 1) := by decide +kernel
theorem d_Law_law_453 : decode b_Law_law 453 = .ok (.iconst 2, 1) := by decide +kernel
theorem d_Law_law_454 : decode b_Law_law 454 = .ok (.iadd, 1) := by decide +kernel
theorem d_Law_law_455 : decode b_Law_law 455 = .ok (.iaload, 1) := by decide +kernel
theorem d_Law_law_456 : decode b_Law_law 456 = .ok (.aload_n 0, 1) := by decide +kernel
theorem d_Law_law_457 : decode b_Law_law 457 = .ok (.iload_n 3, 1) := by decide +kernel
theorem d_Law_law_458 : decode b_Law_law 458 = .ok (.iconst 3, 1) := by decide +kernel
theorem d_Law_law_459 : decode b_Law_law 459 = .ok (.iadd, 1) := by decide +kernel
theorem d_Law_law_460 : decode b_Law_law 460 = .ok (.iaload, 1) := by decide +kernel
theorem d_Law_law_461 : decode b_Law_law 461 = .ok (.aload_n 0, 1) := by decide +kernel
theorem d_Law_law_462 : decode b_Law_law 462 = .ok (.iload_n 3, 1) := by decide +kernel
theorem d_Law_law_463 : decode b_Law_law 463 = .ok (.iconst 4, 1) := by decide +kernel
theorem d_Law_law_464 : decode b_Law_law 464 = .ok (.iadd, 1) := by decide +kernel
theorem d_Law_law_465 : decode b_Law_law 465 = .ok (.iaload, 1) := by decide +kernel
theorem d_Law_law_466 : decode b_Law_law 466 = .ok (.invokevirtual 42, 3) := by decide +kernel
theorem d_Law_law_469 : decode b_Law_law 469 = .ok (.if_icmp .eq 302, 3) := by decide +kernel
theorem d_Law_law_472 : decode b_Law_law 472 = .ok (.iconst 0, 1) := by decide +kernel
theorem d_Law_law_473 : decode b_Law_law 473 = .ok (.ireturn, 1) := by decide +kernel
theorem d_Law_law_474 : decode b_Law_law 474 = .ok (.aload_n 1, 1) := by decide +kernel
theorem d_Law_law_475 : decode b_Law_law 475 = .ok (.aload_n 0, 1) := by decide +kernel
theorem d_Law_law_476 : decode b_Law_law 476 = .ok (.iload_n 3, 1) := by decide +kernel
theorem d_Law_law_477 : decode b_Law_law 477 = .ok (.iconst 1, 1) := by decide +kernel
theorem d_Law_law_478 : decode b_Law_law 478 = .ok (.iadd, 1) := by decide +kernel
theorem d_Law_law_479 : decode b_Law_law 479 = .ok (.iaload, 1) := by decide +kernel
theorem d_Law_law_480 : decode b_Law_law 480 = .ok (.invokevirtual 43, 3) := by decide +kernel
theorem d_Law_law_483 : decode b_Law_law 483 = .ok (.aload_n 2, 1) := by decide +kernel
theorem d_Law_law_484 : decode b_Law_law 484 = .ok (.aload_n 0, 1) := by decide +kernel
theorem d_Law_law_485 : decode b_Law_law 485 = .ok (.iload_n 3, 1) := by decide +kernel
theorem d_Law_law_486 : decode b_Law_law 486 = .ok (.iconst 1, 1) := by decide +kernel
theorem d_Law_law_487 : decode b_Law_law 487 = .ok (.iadd, 1) := by decide +kernel
theorem d_Law_law_488 : decode b_Law_law 488 = .ok (.iaload, 1) := by decide +kernel
theorem d_Law_law_489 : decode b_Law_law 489 = .ok (.invokevirtual 47, 3) := by decide +kernel
theorem d_Law_law_492 : decode b_Law_law 492 = .ok (.if_icmp .eq 279, 3) := by decide +kernel
theorem d_Law_law_495 : decode b_Law_law 495 = .ok (.iconst 0, 1) := by decide +kernel
theorem d_Law_law_496 : decode b_Law_law 496 = .ok (.ireturn, 1) := by decide +kernel
theorem d_Law_law_497 : decode b_Law_law 497 = .ok (.aload_n 1, 1) := by decide +kernel
theorem d_Law_law_498 : decode b_Law_law 498 = .ok (.aload_n 0, 1) := by decide +kernel
theorem d_Law_law_499 : decode b_Law_law 499 = .ok (.iload_n 3, 1) := by decide +kernel
theorem d_Law_law_500 : decode b_Law_law 500 = .ok (.iconst 1, 1) := by decide +kernel
theorem d_Law_law_501 : decode b_Law_law 501 = .ok (.iadd, 1) := by decide +kernel
theorem d_Law_law_502 : decode b_Law_law 502 = .ok (.iaload, 1) := by decide +kernel
theorem d_Law_law_503 : decode b_Law_law 503 = .ok (.aload_n 0, 1) := by decide +kernel
theorem d_Law_law_504 : decode b_Law_law 504 = .ok (.iload_n 3, 1) := by decide +kernel
theorem d_Law_law_505 : decode b_Law_law 505 = .ok (.iconst 2, 1) := by decide +kernel
theorem d_Law_law_506 : decode b_Law_law 506 = .ok (.iadd, 1) := by decide +kernel
theorem d_Law_law_507 : decode b_Law_law 507 = .ok (.iaload, 1) := by decide +kernel
theorem d_Law_law_508 : decode b_Law_law 508 = .ok (.invokevirtual 48, 3) := by decide +kernel
theorem d_Law_law_511 : decode b_Law_law 511 = .ok (.aload_n 2, 1) := by decide +kernel
theorem d_Law_law_512 : decode b_Law_law 512 = .ok (.aload_n 0, 1) := by decide +kernel
theorem d_Law_law_513 : decode b_Law_law 513 = .ok (.iload_n 3, 1) := by decide +kernel
theorem d_Law_law_514 : decode b_Law_law 514 = .ok (.iconst 1, 1) := by decide +kernel
theorem d_Law_law_515 : decode b_Law_law 515 = .ok (.iadd, 1) := by decide +kernel
theorem d_Law_law_516 : decode b_Law_law 516 = .ok (.iaload, 1) := by decide +kernel
theorem d_Law_law_517 : decode b_Law_law 517 = .ok (.aload_n 0, 1) := by decide +kernel
theorem d_Law_law_518 : decode b_Law_law 518 = .ok (.iload_n 3, 1) := by decide +kernel
theorem d_Law_law_519 : decode b_Law_law 519 = .ok (.iconst 2, 1) := by decide +kernel
theorem d_Law_law_520 : decode b_Law_law 520 = .ok (.iadd, 1) := by decide +kernel
theorem d_Law_law_521 : decode b_Law_law 521 = .ok (.iaload, 1) := by decide +kernel
theorem d_Law_law_522 : decode b_Law_law 522 = .ok (.invokevirtual 51, 3) := by decide +kernel
theorem d_Law_law_525 : decode b_Law_law 525 = .ok (.if_icmp .eq 246, 3) := by decide +kernel
theorem d_Law_law_528 : decode b_Law_law 528 = .ok (.iconst 0, 1) := by decide +kernel
theorem d_Law_law_529 : decode b_Law_law 529 = .ok (.ireturn, 1) := by decide +kernel
theorem d_Law_law_530 : decode b_Law_law 530 = .ok (.aload_n 1, 1) := by decide +kernel
theorem d_Law_law_531 : decode b_Law_law 531 = .ok (.aload_n 0, 1) := by decide +kernel
theorem d_Law_law_532 : decode b_Law_law 532 = .ok (.iload_n 3, 1) := by decide +kernel
theorem d_Law_law_533 : decode b_Law_law 533 = .ok (.iconst 1, 1) := by decide +kernel
theorem d_Law_law_534 : decode b_Law_law 534 = .ok (.iadd, 1) := by decide +kernel
theorem d_Law_law_535 : decode b_Law_law 535 = .ok (.iaload, 1) := by decide +kernel
theorem d_Law_law_536 : decode b_Law_law 536 = .ok (.aload_n 0, 1) := by decide +kernel
theorem d_Law_law_537 : decode b_Law_law 537 = .ok (.iload_n 3, 1) := by decide +kernel
theorem d_Law_law_538 : decode b_Law_law 538 = .ok (.iconst 2, 1) := by decide +kernel
theorem d_Law_law_539 : decode b_Law_law 539 = .ok (.iadd, 1) := by decide +kernel
theorem d_Law_law_540 : decode b_Law_law 540 = .ok (.iaload, 1) := by decide +kernel
theorem d_Law_law_541 : decode b_Law_law 541 = .ok (.invokevirtual 52, 3) := by decide +kernel
theorem d_Law_law_544 : decode b_Law_law 544 = .ok (.aload_n 2, 1) := by decide +kernel
theorem d_Law_law_545 : decode b_Law_law 545 = .ok (.aload_n 0, 1) := by decide +kernel
theorem d_Law_law_546 : decode b_Law_law 546 = .ok (.iload_n 3, 1) := by decide +kernel
theorem d_Law_law_547 : decode b_Law_law 547 = .ok (.iconst 1, 1) := by decide +kernel
theorem d_Law_law_548 : decode b_Law_law 548 = .ok (.iadd, 1) := by decide +kernel
theorem d_Law_law_549 : decode b_Law_law 549 = .ok (.iaload, 1) := by decide +kernel
theorem d_Law_law_550 : decode b_Law_law 550 = .ok (.aload_n 0, 1) := by decide +kernel
theorem d_Law_law_551 : decode b_Law_law 551 = .ok (.iload_n 3, 1) := by decide +kernel
theorem d_Law_law_552 : decode b_Law_law 552 = .ok (.iconst 2, 1) := by decide +kernel
theorem d_Law_law_553 : decode b_Law_law 553 = .ok (.iadd, 1) := by decide +kernel
theorem d_Law_law_554 : decode b_Law_law 554 = .ok (.iaload, 1) := by decide +kernel
theorem d_Law_law_555 : decode b_Law_law 555 = .ok (.invokevirtual 55, 3) := by decide +kernel
theorem d_Law_law_558 : decode b_Law_law 558 = .ok (.if_icmp .eq 213, 3) := by decide +kernel
theorem d_Law_law_561 : decode b_Law_law 561 = .ok (.iconst 0, 1) := by decide +kernel
theorem d_Law_law_562 : decode b_Law_law 562 = .ok (.ireturn, 1) := by decide +kernel
theorem d_Law_law_563 : decode b_Law_law 563 = .ok (.aload_n 1, 1) := by decide +kernel
theorem d_Law_law_564 : decode b_Law_law 564 = .ok (.aload_n 0, 1) := by decide +kernel
theorem d_Law_law_565 : decode b_Law_law 565 = .ok (.iload_n 3, 1) := by decide +kernel
theorem d_Law_law_566 : decode b_Law_law 566 = .ok (.iconst 1, 1) := by decide +kernel
theorem d_Law_law_567 : decode b_Law_law 567 = .ok (.iadd, 1) := by decide +kernel
theorem d_Law_law_568 : decode b_Law_law 568 = .ok (.iaload, 1) := by decide +kernel
theorem d_Law_law_569 : decode b_Law_law 569 = .ok (.aload_n 0, 1) := by decide +kernel
theorem d_Law_law_570 : decode b_Law_law 570 = .ok (.iload_n 3, 1) := by decide +kernel
theorem d_Law_law_571 : decode b_Law_law 571 = .ok (.iconst 2, 1) := by decide +kernel
theorem d_Law_law_572 : decode b_Law_law 572 = .ok (.iadd, 1) := by decide +kernel
theorem d_Law_law_573 : decode b_Law_law 573 = .ok (.iaload, 1) := by decide +kernel
theorem d_Law_law_574 : decode b_Law_law 574 = .ok (.invokevirtual 56, 3) := by decide +kernel
theorem d_Law_law_577 : decode b_Law_law 577 = .ok (.aload_n 2, 1) := by decide +kernel
theorem d_Law_law_578 : decode b_Law_law 578 = .ok (.aload_n 0, 1) := by decide +kernel
theorem d_Law_law_579 : decode b_Law_law 579 = .ok (.iload_n 3, 1) := by decide +kernel
theorem d_Law_law_580 : decode b_Law_law 580 = .ok (.iconst 1, 1) := by decide +kernel
theorem d_Law_law_581 : decode b_Law_law 581 = .ok (.iadd, 1) := by decide +kernel
theorem d_Law_law_582 : decode b_Law_law 582 = .ok (.iaload, 1) := by decide +kernel
theorem d_Law_law_583 : decode b_Law_law 583 = .ok (.aload_n 0, 1) := by decide +kernel
theorem d_Law_law_584 : decode b_Law_law 584 = .ok (.iload_n 3, 1) := by decide +kernel
theorem d_Law_law_585 : decode b_Law_law 585 = .ok (.iconst 2, 1) := by decide +kernel
theorem d_Law_law_586 : decode b_Law_law 586 = .ok (.iadd, 1) := by decide +kernel
theorem d_Law_law_587 : decode b_Law_law 587 = .ok (.iaload, 1) := by decide +kernel
theorem d_Law_law_588 : decode b_Law_law 588 = .ok (.invokevirtual 59, 3) := by decide +kernel
theorem d_Law_law_591 : decode b_Law_law 591 = .ok (.if_icmp .eq 180, 3) := by decide +kernel
theorem d_Law_law_594 : decode b_Law_law 594 = .ok (.iconst 0, 1) := by decide +kernel
theorem d_Law_law_595 : decode b_Law_law 595 = .ok (.ireturn, 1) := by decide +kernel
theorem d_Law_law_596 : decode b_Law_law 596 = .ok (.aload_n 1, 1) := by decide +kernel
theorem d_Law_law_597 : decode b_Law_law 597 = .ok (.aload_n 0, 1) := by decide +kernel
theorem d_Law_law_598 : decode b_Law_law 598 = .ok (.iload_n 3, 1) := by decide +kernel
theorem d_Law_law_599 : decode b_Law_law 599 = .ok (.iconst 1, 1) := by decide +kernel
theorem d_Law_law_600 : decode b_Law_law 600 = .ok (.iadd, 1) := by decide +kernel
theorem d_Law_law_601 : decode b_Law_law 601 = .ok (.iaload, 1) := by decide +kernel
theorem d_Law_law_602 : decode b_Law_law 602 = .ok (.aload_n 0, 1) := by decide +kernel
theorem d_Law_law_603 : decode b_Law_law 603 = .ok (.iload_n 3, 1) := by decide +kernel
theorem d_Law_law_604 : decode b_Law_law 604 = .ok (.iconst 2, 1) := by decide +kernel
theorem d_Law_law_605 : decode b_Law_law 605 = .ok (.iadd, 1) := by decide +kernel
theorem d_Law_law_606 : decode b_Law_law 606 = .ok (.iaload, 1) := by decide +kernel
theorem d_Law_law_607 : decode b_Law_law 607 = .ok (.invokevirtual 60, 3) := by decide +kernel
theorem d_Law_law_610 : decode b_Law_law 610 = .ok (.aload_n 2, 1) := by decide +kernel
theorem d_Law_law_611 : decode b_Law_law 611 = .ok (.aload_n 0, 1) := by decide +kernel
theorem d_Law_law_612 : decode b_Law_law 612 = .ok (.iload_n 3, 1) := by decide +kernel
theorem d_Law_law_613 : decode b_Law_law 613 = .ok (.iconst 1, 1) := by decide +kernel
theorem d_Law_law_614 : decode b_Law_law 614 = .ok (.iadd, 1) := by decide +kernel
theorem d_Law_law_615 : decode b_Law_law 615 = .ok (.iaload, 1) := by decide +kernel
theorem d_Law_law_616 : decode b_Law_law 616 = .ok (.aload_n 0, 1) := by decide +kernel
theorem d_Law_law_617 : decode b_Law_law 617 = .ok (.iload_n 3, 1) := by decide +kernel
theorem d_Law_law_618 : decode b_Law_law 618 = .ok (.iconst 2, 1) := by decide +kernel
theorem d_Law_law_619 : decode b_Law_law 619 = .ok (.iadd, 1) := by decide +kernel
theorem d_Law_law_620 : decode b_Law_law 620 = .ok (.iaload, 1) := by decide +kernel
theorem d_Law_law_621 : decode b_Law_law 621 = .ok (.invokevirtual 63, 3) := by decide +kernel
theorem d_Law_law_624 : decode b_Law_law 624 = .ok (.if_icmp .eq 147, 3) := by decide +kernel
theorem d_Law_law_627 : decode b_Law_law 627 = .ok (.iconst 0, 1) := by decide +kernel
theorem d_Law_law_628 : decode b_Law_law 628 = .ok (.ireturn, 1) := by decide +kernel
theorem d_Law_law_629 : decode b_Law_law 629 = .ok (.aload_n 1, 1) := by decide +kernel
theorem d_Law_law_630 : decode b_Law_law 630 = .ok (.aload_n 0, 1) := by decide +kernel
theorem d_Law_law_631 : decode b_Law_law 631 = .ok (.iload_n 3, 1) := by decide +kernel
theorem d_Law_law_632 : decode b_Law_law 632 = .ok (.iconst 1, 1) := by decide +kernel
theorem d_Law_law_633 : decode b_Law_law 633 = .ok (.iadd, 1) := by decide +kernel
theorem d_Law_law_634 : decode b_Law_law 634 = .ok (.iaload, 1) := by decide +kernel
theorem d_Law_law_635 : decode b_Law_law 635 = .ok (.aload_n 0, 1) := by decide +kernel
theorem d_Law_law_636 : decode b_Law_law 636 = .ok (.iload_n 3, 1) := by decide +kernel
theorem d_Law_law_637 : decode b_Law_law 637 = .ok (.iconst 2, 1) := by decide +kernel
theorem d_Law_law_638 : decode b_Law_law 638 = .ok (.iadd, 1) := by decide +kernel
theorem d_Law_law_639 : decode b_Law_law 639 = .ok (.iaload, 1) := by decide +kernel
theorem d_Law_law_640 : decode b_Law_law 640 = .ok (.aload_n 0, 1) := by decide +kernel
theorem d_Law_law_641 : decode b_Law_law 641 = .ok (.iload_n 3, 1) := by decide +kernel
theorem d_Law_law_642 : decode b_Law_law 642 = .ok (.iconst 3, 1) := by decide +kernel
theorem d_Law_law_643 : decode b_Law_law 643 = .ok (.iadd, 1) := by decide +kernel
theorem d_Law_law_644 : decode b_Law_law 644 = .ok (.iaload, 1) := by decide +kernel
theorem d_Law_law_645 : decode b_Law_law 645 = .ok (.aload_n 0, 1) := by decide +kernel
theorem d_Law_law_646 : decode b_Law_law 646 = .ok (.iload_n 3, 1) := by decide +kernel
theorem d_Law_law_647 : decode b_Law_law 647 = .ok (.iconst 4, 1) := by decide +kernel
theorem d_Law_law_648 : decode b_Law_law 648 = .ok (.iadd, 1) := by decide +kernel
theorem d_Law_law_649 : decode b_Law_law 649 = .ok (.iaload, 1) := by decide +kernel
theorem d_Law_law_650 : decode b_Law_law 650 = .ok (.invokevirtual 64, 3) := by decide +kernel
theorem d_Law_law_653 : decode b_Law_law 653 = .ok (.aload_n 2, 1) := by decide +kernel
theorem d_Law_law_654 : decode b_Law_law 654 = .ok (.aload_n 0, 1) := by decide +kernel
theorem d_Law_law_655 : decode b_Law_law 655 = .ok (.iload_n 3, 1) := by decide +kernel
theorem d_Law_law_656 : decode b_Law_law 656 = .ok (.iconst 1, 1) := by decide +kernel
theorem d_Law_law_657 : decode b_Law_law 657 = .ok (.iadd, 1) := by decide +kernel
theorem d_Law_law_658 : decode b_Law_law 658 = .ok (.iaload, 1) := by decide +kernel
theorem d_Law_law_659 : decode b_Law_law 659 = .ok (.aload_n 0, 1) := by decide +kernel
theorem d_Law_law_660 : decode b_Law_law 660 = .ok (.iload_n 3, 1) := by decide +kernel
theorem d_Law_law_661 : decode b_Law_law 661 = .ok (.iconst 2, 1) := by decide +kernel
theorem d_Law_law_662 : decode b_Law_law 662 = .ok (.iadd, 1) := by decide +kernel
theorem d_Law_law_663 : decode b_Law_law 663 = .ok (.iaload, 1) := by decide +kernel
theorem d_Law_law_664 : decode b_Law_law 664 = .ok (.aload_n 0, 1) := by decide +kernel
theorem d_Law_law_665 : decode b_Law_law 665 = .ok (.iload_n 3, 1) := by decide +kernel
theorem d_Law_law_666 : decode b_Law_law 666 = .ok (.iconst 3, 1) := by decide +kernel
theorem d_Law_law_667 : decode b_Law_law 667 = .ok (.iadd, 1) := by decide +kernel
theorem d_Law_law_668 : decode b_Law_law 668 = .ok (.iaload, 1) := by decide +kernel
theorem d_Law_law_669 : decode b_Law_law 669 = .ok (.aload_n 0, 1) := by decide +kernel
theorem d_Law_law_670 : decode b_Law_law 670 = .ok (.iload_n 3, 1) := by decide +kernel
theorem d_Law_law_671 : decode b_Law_law 671 = .ok (.iconst 4, 1) := by decide +kernel
theorem d_Law_law_672 : decode b_Law_law 672 = .ok (.iadd, 1) := by decide +kernel
theorem d_Law_law_673 : decode b_Law_law 673 = .ok (.iaload, 1) := by decide +kernel
theorem d_Law_law_674 : decode b_Law_law 674 = .ok (.invokevirtual 67, 3) := by decide +kernel
theorem d_Law_law_677 : decode b_Law_law 677 = .ok (.if_icmp .eq 94, 3) := by decide +kernel
theorem d_Law_law_680 : decode b_Law_law 680 = .ok (.iconst 0, 1) := by decide +kernel
theorem d_Law_law_681 : decode b_Law_law 681 = .ok (.ireturn, 1) := by decide +kernel
theorem d_Law_law_682 : decode b_Law_law 682 = .ok (.aload_n 1, 1) := by decide +kernel
theorem d_Law_law_683 : decode b_Law_law 683 = .ok (.aload_n 0, 1) := by decide +kernel
theorem d_Law_law_684 : decode b_Law_law 684 = .ok (.iload_n 3, 1) := by decide +kernel
theorem d_Law_law_685 : decode b_Law_law 685 = .ok (.iconst 1, 1) := by decide +kernel
theorem d_Law_law_686 : decode b_Law_law 686 = .ok (.iadd, 1) := by decide +kernel
theorem d_Law_law_687 : decode b_Law_law 687 = .ok (.iaload, 1) := by decide +kernel
theorem d_Law_law_688 : decode b_Law_law 688 = .ok (.aload_n 0, 1) := by decide +kernel
theorem d_Law_law_689 : decode b_Law_law 689 = .ok (.iload_n 3, 1) := by decide +kernel
theorem d_Law_law_690 : decode b_Law_law 690 = .ok (.iconst 2, 1) := by decide +kernel
theorem d_Law_law_691 : decode b_Law_law 691 = .ok (.iadd, 1) := by decide +kernel
theorem d_Law_law_692 : decode b_Law_law 692 = .ok (.iaload, 1) := by decide +kernel
theorem d_Law_law_693 : decode b_Law_law 693 = .ok (.invokevirtual 68, 3) := by decide +kernel
theorem d_Law_law_696 : decode b_Law_law 696 = .ok (.aload_n 2, 1) := by decide +kernel
theorem d_Law_law_697 : decode b_Law_law 697 = .ok (.aload_n 0, 1) := by decide +kernel
theorem d_Law_law_698 : decode b_Law_law 698 = .ok (.iload_n 3, 1) := by decide +kernel
theorem d_Law_law_699 : decode b_Law_law 699 = .ok (.iconst 1, 1) := by decide +kernel
theorem d_Law_law_700 : decode b_Law_law 700 = .ok (.iadd, 1) := by decide +kernel
theorem d_Law_law_701 : decode b_Law_law 701 = .ok (.iaload, 1) := by decide +kernel
theorem d_Law_law_702 : decode b_Law_law 702 = .ok (.aload_n 0, 1) := by decide +kernel
theorem d_Law_law_703 : decode b_Law_law 703 = .ok (.iload_n 3, 1) := by decide +kernel
theorem d_Law_law_704 : decode b_Law_law 704 = .ok (.iconst 2, 1) := by decide +kernel
theorem d_Law_law_705 : decode b_Law_law 705 = .ok (.iadd, 1) := by decide +kernel
theorem d_Law_law_706 : decode b_Law_law 706 = .ok (.iaload, 1) := by decide +kernel
theorem d_Law_law_707 : decode b_Law_law 707 = .ok (.invokevirtual 71, 3) := by decide +kernel
theorem d_Law_law_710 : decode b_Law_law 710 = .ok (.if_icmp .eq 61, 3) := by decide +kernel
theorem d_Law_law_713 : decode b_Law_law 713 = .ok (.iconst 0, 1) := by decide +kernel
theorem d_Law_law_714 : decode b_Law_law 714 = .ok (.ireturn, 1) := by decide +kernel
theorem d_Law_law_715 : decode b_Law_law 715 = .ok (.aload_n 1, 1) := by decide +kernel
theorem d_Law_law_716 : decode b_Law_law 716 = .ok (.aload_n 0, 1) := by decide +kernel
theorem d_Law_law_717 : decode b_Law_law 717 = .ok (.iload_n 3, 1) := by decide +kernel
theorem d_Law_law_718 : decode b_Law_law 718 = .ok (.iconst 1, 1) := by decide +kernel
theorem d_Law_law_719 : decode b_Law_law 719 = .ok (.iadd, 1) := by decide +kernel
theorem d_Law_law_720 : decode b_Law_law 720 = .ok (.iaload, 1) := by decide +kernel
theorem d_Law_law_721 : decode b_Law_law 721 = .ok (.aload_n 0, 1) := by decide +kernel
theorem d_Law_law_722 : decode b_Law_law 722 = .ok (.iload_n 3, 1) := by decide +kernel
theorem d_Law_law_723 : decode b_Law_law 723 = .ok (.iconst 2, 1) := by decide +kernel
theorem d_Law_law_724 : decode b_Law_law 724 = .ok (.iadd, 1) := by decide +kernel
theorem d_Law_law_725 : decode b_Law_law 725 = .ok (.iaload, 1) := by decide +kernel
theorem d_Law_law_726 : decode b_Law_law 726 = .ok (.invokevirtual 72, 3) := by decide +kernel
theorem d_Law_law_729 : decode b_Law_law 729 = .ok (.aload_n 2, 1) := by decide +kernel
theorem d_Law_law_730 : decode b_Law_law 730 = .ok (.aload_n 0, 1) := by decide +kernel
theorem d_Law_law_731 : decode b_Law_law 731 = .ok (.iload_n 3, 1) := by decide +kernel
theorem d_Law_law_732 : decode b_Law_law 732 = .ok (.iconst 1, 1) := by decide +kernel
theorem d_Law_law_733 : decode b_Law_law 733 = .ok (.iadd, 1) := by decide +kernel
theorem d_Law_law_734 : decode b_Law_law 734 = .ok (.iaload, 1) := by decide +kernel
theorem d_Law_law_735 : decode b_Law_law 735 = .ok (.aload_n 0, 1) := by decide +kernel
theorem d_Law_law_736 : decode b_Law_law 736 = .ok (.iload_n 3, 1) := by decide +kernel
theorem d_Law_law_737 : decode b_Law_law 737 = .ok (.iconst 2, 1) := by decide +kernel
theorem d_Law_law_738 : decode b_Law_law 738 = .ok (.iadd, 1) := by decide +kernel
theorem d_Law_law_739 : decode b_Law_law 739 = .ok (.iaload, 1) := by decide +kernel
theorem d_Law_law_740 : decode b_Law_law 740 = .ok (.invokevirtual 75, 3) := by decide +kernel
theorem d_Law_law_743 : decode b_Law_law 743 = .ok (.if_icmp .eq 28, 3) := by decide +kernel
theorem d_Law_law_746 : decode b_Law_law 746 = .ok (.iconst 0, 1) := by decide +kernel
theorem d_Law_law_747 : decode b_Law_law 747 = .ok (.ireturn, 1) := by decide +kernel
theorem d_Law_law_748 : decode b_Law_law 748 = .ok (.aload_n 1, 1) := by decide +kernel
theorem d_Law_law_749 : decode b_Law_law 749 = .ok (.aload_n 0, 1) := by decide +kernel
theorem d_Law_law_750 : decode b_Law_law 750 = .ok (.iload_n 3, 1) := by decide +kernel
theorem d_Law_law_751 : decode b_Law_law 751 = .ok (.iconst 1, 1) := by decide +kernel
theorem d_Law_law_752 : decode b_Law_law 752 = .ok (.iadd, 1) := by decide +kernel
theorem d_Law_law_753 : decode b_Law_law 753 = .ok (.iaload, 1) := by decide +kernel
theorem d_Law_law_754 : decode b_Law_law 754 = .ok (.invokevirtual 76, 3) := by decide +kernel
theorem d_Law_law_757 : decode b_Law_law 757 = .ok (.aload_n 2, 1) := by decide +kernel
theorem d_Law_law_758 : decode b_Law_law 758 = .ok (.aload_n 0, 1) := by decide +kernel
theorem d_Law_law_759 : decode b_Law_law 759 = .ok (.iload_n 3, 1) := by decide +kernel
theorem d_Law_law_760 : decode b_Law_law 760 = .ok (.iconst 1, 1) := by decide +kernel
theorem d_Law_law_761 : decode b_Law_law 761 = .ok (.iadd, 1) := by decide +kernel
theorem d_Law_law_762 : decode b_Law_law 762 = .ok (.iaload, 1) := by decide +kernel
theorem d_Law_law_763 : decode b_Law_law 763 = .ok (.invokevirtual 79, 3) := by decide +kernel
theorem d_Law_law_766 : decode b_Law_law 766 = .ok (.if_icmp .eq 5, 3) := by decide +kernel
theorem d_Law_law_769 : decode b_Law_law 769 = .ok (.iconst 0, 1) := by decide +kernel
theorem d_Law_law_770 : decode b_Law_law 770 = .ok (.ireturn, 1) := by decide +kernel
theorem d_Law_law_771 : decode b_Law_law 771 = .ok (.iinc 3 7, 3) := by decide +kernel
theorem d_Law_law_774 : decode b_Law_law 774 = .ok (.goto (-756), 3) := by decide +kernel
theorem d_Law_law_777 : decode b_Law_law 777 = .ok (.iconst 1, 1) := by decide +kernel
theorem d_Law_law_778 : decode b_Law_law 778 = .ok (.ireturn, 1) := by decide +kernel
