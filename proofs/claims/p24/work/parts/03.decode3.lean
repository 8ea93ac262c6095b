theorem dL_rules_9 : decode cL_rules 9 = .ok (.istore_n 1, 1) := by decide +kernel
theorem dL_rules_10 : decode cL_rules 10 = .ok (.iload_n 1, 1) := by decide +kernel
theorem dL_rules_11 : decode cL_rules 11 = .ok (.bipush 31, 2) := by decide +kernel
theorem dL_rules_13 : decode cL_rules 13 = .ok (.if_icmp .ge 43, 3) := by decide +kernel
theorem dL_rules_16 : decode cL_rules 16 = .ok (.aload_n 0, 1) := by decide +kernel
theorem dL_rules_17 : decode cL_rules 17 = .ok (.iload_n 1, 1) := by decide +kernel
theorem dL_rules_18 : decode cL_rules 18 = .ok (.bipush 8, 2) := by decide +kernel
theorem dL_rules_20 : decode cL_rules 20 = .ok (.irem, 1) := by decide +kernel
theorem dL_rules_21 : decode cL_rules 21 = .ok (.iload_n 1, 1) := by decide +kernel
theorem dL_rules_22 : decode cL_rules 22 = .ok (.bipush 8, 2) := by decide +kernel
theorem dL_rules_24 : decode cL_rules 24 = .ok (.idiv, 1) := by decide +kernel
theorem dL_rules_25 : decode cL_rules 25 = .ok (.iconst 4, 1) := by decide +kernel
theorem dL_rules_26 : decode cL_rules 26 = .ok (.iconst 0, 1) := by decide +kernel
theorem dL_rules_27 : decode cL_rules 27 = .ok (.iconst 0, 1) := by decide +kernel
theorem dL_rules_28 : decode cL_rules 28 = .ok (.iconst 1, 1) := by decide +kernel
theorem dL_rules_29 : decode cL_rules 29 = .ok (.iconst 0, 1) := by decide +kernel
theorem dL_rules_30 : decode cL_rules 30 = .ok (.invokestatic 85, 3) := by decide +kernel
theorem dL_rules_33 : decode cL_rules 33 = .ok (.iload_n 1, 1) := by decide +kernel
theorem dL_rules_34 : decode cL_rules 34 = .ok (.bipush 30, 2) := by decide +kernel
theorem dL_rules_36 : decode cL_rules 36 = .ok (.if_icmp .ge 7, 3) := by decide +kernel
theorem dL_rules_39 : decode cL_rules 39 = .ok (.iload_n 1, 1) := by decide +kernel
theorem dL_rules_40 : decode cL_rules 40 = .ok (.goto 5, 3) := by decide +kernel
theorem dL_rules_43 : decode cL_rules 43 = .ok (.bipush (-73), 2) := by decide +kernel
theorem dL_rules_45 : decode cL_rules 45 = .ok (.if_icmp .eq 5, 3) := by decide +kernel
theorem dL_rules_48 : decode cL_rules 48 = .ok (.iconst 0, 1) := by decide +kernel
theorem dL_rules_49 : decode cL_rules 49 = .ok (.ireturn, 1) := by decide +kernel
theorem dL_rules_50 : decode cL_rules 50 = .ok (.iinc 1 1, 3) := by decide +kernel
theorem dL_rules_53 : decode cL_rules 53 = .ok (.goto (-43), 3) := by decide +kernel
theorem dL_rules_56 : decode cL_rules 56 = .ok (.aload_n 0, 1) := by decide +kernel
theorem dL_rules_57 : decode cL_rules 57 = .ok (.iconst 0, 1) := by decide +kernel
theorem dL_rules_58 : decode cL_rules 58 = .ok (.invokevirtual 33, 3) := by decide +kernel
theorem dL_rules_61 : decode cL_rules 61 = .ok (.ifCond .eq 5, 3) := by decide +kernel
theorem dL_rules_64 : decode cL_rules 64 = .ok (.iconst 0, 1) := by decide +kernel
theorem dL_rules_65 : decode cL_rules 65 = .ok (.ireturn, 1) := by decide +kernel
theorem dL_rules_66 : decode cL_rules 66 = .ok (.iconst 0, 1) := by decide +kernel
theorem dL_rules_67 : decode cL_rules 67 = .ok (.istore_n 1, 1) := by decide +kernel
theorem dL_rules_68 : decode cL_rules 68 = .ok (.iload_n 1, 1) := by decide +kernel
theorem dL_rules_69 : decode cL_rules 69 = .ok (.bipush 15, 2) := by decide +kernel
theorem dL_rules_71 : decode cL_rules 71 = .ok (.if_icmp .ge 49, 3) := by decide +kernel
theorem dL_rules_74 : decode cL_rules 74 = .ok (.aload_n 0, 1) := by decide +kernel
theorem dL_rules_75 : decode cL_rules 75 = .ok (.iconst 3, 1) := by decide +kernel
theorem dL_rules_76 : decode cL_rules 76 = .ok (.iload_n 1, 1) := by decide +kernel
theorem dL_rules_77 : decode cL_rules 77 = .ok (.iconst 3, 1) := by decide +kernel
theorem dL_rules_78 : decode cL_rules 78 = .ok (.irem, 1) := by decide +kernel
theorem dL_rules_79 : decode cL_rules 79 = .ok (.iconst 2, 1) := by decide +kernel
theorem dL_rules_80 : decode cL_rules 80 = .ok (.if_icmp .ne 7, 3) := by decide +kernel
theorem dL_rules_83 : decode cL_rules 83 = .ok (.iconst 0, 1) := by decide +kernel
theorem dL_rules_84 : decode cL_rules 84 = .ok (.goto 4, 3) := by decide +kernel
theorem dL_rules_87 : decode cL_rules 87 = .ok (.iconst 5, 1) := by decide +kernel
theorem dL_rules_88 : decode cL_rules 88 = .ok (.bipush 8, 2) := by decide +kernel
theorem dL_rules_90 : decode cL_rules 90 = .ok (.iconst 0, 1) := by decide +kernel
theorem dL_rules_91 : decode cL_rules 91 = .ok (.iconst 0, 1) := by decide +kernel
theorem dL_rules_92 : decode cL_rules 92 = .ok (.invokestatic 90, 3) := by decide +kernel
theorem dL_rules_95 : decode cL_rules 95 = .ok (.iload_n 1, 1) := by decide +kernel
theorem dL_rules_96 : decode cL_rules 96 = .ok (.bipush 14, 2) := by decide +kernel
theorem dL_rules_98 : decode cL_rules 98 = .ok (.if_icmp .ge 9, 3) := by decide +kernel
theorem dL_rules_101 : decode cL_rules 101 = .ok (.iload_n 1, 1) := by decide +kernel
theorem dL_rules_102 : decode cL_rules 102 = .ok (.iconst 1, 1) := by decide +kernel
theorem dL_rules_103 : decode cL_rules 103 = .ok (.iadd, 1) := by decide +kernel
theorem dL_rules_104 : decode cL_rules 104 = .ok (.goto 5, 3) := by decide +kernel
theorem dL_rules_107 : decode cL_rules 107 = .ok (.bipush (-73), 2) := by decide +kernel
theorem dL_rules_109 : decode cL_rules 109 = .ok (.if_icmp .eq 5, 3) := by decide +kernel
theorem dL_rules_112 : decode cL_rules 112 = .ok (.iconst 0, 1) := by decide +kernel
theorem dL_rules_113 : decode cL_rules 113 = .ok (.ireturn, 1) := by decide +kernel
theorem dL_rules_114 : decode cL_rules 114 = .ok (.iinc 1 1, 3) := by decide +kernel
theorem dL_rules_117 : decode cL_rules 117 = .ok (.goto (-49), 3) := by decide +kernel
theorem dL_rules_120 : decode cL_rules 120 = .ok (.aload_n 0, 1) := by decide +kernel
theorem dL_rules_121 : decode cL_rules 121 = .ok (.iconst 2, 1) := by decide +kernel
theorem dL_rules_122 : decode cL_rules 122 = .ok (.iconst 5, 1) := by decide +kernel
theorem dL_rules_123 : decode cL_rules 123 = .ok (.invokevirtual 41, 3) := by decide +kernel
theorem dL_rules_126 : decode cL_rules 126 = .ok (.ifCond .ne 109, 3) := by decide +kernel
theorem dL_rules_129 : decode cL_rules 129 = .ok (.aload_n 0, 1) := by decide +kernel
theorem dL_rules_130 : decode cL_rules 130 = .ok (.iconst 5, 1) := by decide +kernel
theorem dL_rules_131 : decode cL_rules 131 = .ok (.iconst 5, 1) := by decide +kernel
theorem dL_rules_132 : decode cL_rules 132 = .ok (.invokevirtual 41, 3) := by decide +kernel
theorem dL_rules_135 : decode cL_rules 135 = .ok (.ifCond .ne 100, 3) := by decide +kernel
theorem dL_rules_138 : decode cL_rules 138 = .ok (.aload_n 0, 1) := by decide +kernel
theorem dL_rules_139 : decode cL_rules 139 = .ok (.iconst 2, 1) := by decide +kernel
theorem dL_rules_140 : decode cL_rules 140 = .ok (.iconst 0, 1) := by decide +kernel
theorem dL_rules_141 : decode cL_rules 141 = .ok (.invokevirtual 47, 3) := by decide +kernel
theorem dL_rules_144 : decode cL_rules 144 = .ok (.iconst (-1), 1) := by decide +kernel
theorem dL_rules_145 : decode cL_rules 145 = .ok (.if_icmp .ne 90, 3) := by decide +kernel
theorem dL_rules_148 : decode cL_rules 148 = .ok (.aload_n 0, 1) := by decide +kernel
theorem dL_rules_149 : decode cL_rules 149 = .ok (.iconst 0, 1) := by decide +kernel
theorem dL_rules_150 : decode cL_rules 150 = .ok (.iconst 1, 1) := by decide +kernel
theorem dL_rules_151 : decode cL_rules 151 = .ok (.invokevirtual 47, 3) := by decide +kernel
theorem dL_rules_154 : decode cL_rules 154 = .ok (.bipush 8, 2) := by decide +kernel
theorem dL_rules_156 : decode cL_rules 156 = .ok (.if_icmp .ne 79, 3) := by decide +kernel
theorem dL_rules_159 : decode cL_rules 159 = .ok (.aload_n 0, 1) := by decide +kernel
theorem dL_rules_160 : decode cL_rules 160 = .ok (.invokevirtual 104, 3) := by decide +kernel
theorem dL_rules_163 : decode cL_rules 163 = .ok (.bipush 14, 2) := by decide +kernel
theorem dL_rules_165 : decode cL_rules 165 = .ok (.if_icmp .ne 70, 3) := by decide +kernel
theorem dL_rules_168 : decode cL_rules 168 = .ok (.aload_n 0, 1) := by decide +kernel
theorem dL_rules_169 : decode cL_rules 169 = .ok (.iconst 0, 1) := by decide +kernel
theorem dL_rules_170 : decode cL_rules 170 = .ok (.bipush 8, 2) := by decide +kernel
theorem dL_rules_172 : decode cL_rules 172 = .ok (.iconst 0, 1) := by decide +kernel
theorem dL_rules_173 : decode cL_rules 173 = .ok (.iconst 0, 1) := by decide +kernel
theorem dL_rules_174 : decode cL_rules 174 = .ok (.invokevirtual 19, 3) := by decide +kernel
theorem dL_rules_177 : decode cL_rules 177 = .ok (.iconst 1, 1) := by decide +kernel
theorem dL_rules_178 : decode cL_rules 178 = .ok (.if_icmp .ne 57, 3) := by decide +kernel
theorem dL_rules_181 : decode cL_rules 181 = .ok (.aload_n 0, 1) := by decide +kernel
theorem dL_rules_182 : decode cL_rules 182 = .ok (.iconst 0, 1) := by decide +kernel
theorem dL_rules_183 : decode cL_rules 183 = .ok (.bipush 8, 2) := by decide +kernel
theorem dL_rules_185 : decode cL_rules 185 = .ok (.iconst 0, 1) := by decide +kernel
theorem dL_rules_186 : decode cL_rules 186 = .ok (.iconst 0, 1) := by decide +kernel
theorem dL_rules_187 : decode cL_rules 187 = .ok (.invokevirtual 19, 3) := by decide +kernel
theorem dL_rules_190 : decode cL_rules 190 = .ok (.iconst 2, 1) := by decide +kernel
theorem dL_rules_191 : decode cL_rules 191 = .ok (.if_icmp .ne 44, 3) := by decide +kernel
theorem dL_rules_194 : decode cL_rules 194 = .ok (.aload_n 0, 1) := by decide +kernel
theorem dL_rules_195 : decode cL_rules 195 = .ok (.iconst 0, 1) := by decide +kernel
theorem dL_rules_196 : decode cL_rules 196 = .ok (.iconst 5, 1) := by decide +kernel
theorem dL_rules_197 : decode cL_rules 197 = .ok (.invokevirtual 41, 3) := by decide +kernel
theorem dL_rules_200 : decode cL_rules 200 = .ok (.iconst 1, 1) := by decide +kernel
theorem dL_rules_201 : decode cL_rules 201 = .ok (.if_icmp .ne 34, 3) := by decide +kernel
theorem dL_rules_204 : decode cL_rules 204 = .ok (.aload_n 0, 1) := by decide +kernel
theorem dL_rules_205 : decode cL_rules 205 = .ok (.iconst 1, 1) := by decide +kernel
theorem dL_rules_206 : decode cL_rules 206 = .ok (.iconst 5, 1) := by decide +kernel
theorem dL_rules_207 : decode cL_rules 207 = .ok (.invokevirtual 41, 3) := by decide +kernel
theorem dL_rules_210 : decode cL_rules 210 = .ok (.iconst 1, 1) := by decide +kernel
theorem dL_rules_211 : decode cL_rules 211 = .ok (.if_icmp .ne 24, 3) := by decide +kernel
theorem dL_rules_214 : decode cL_rules 214 = .ok (.aload_n 0, 1) := by decide +kernel
theorem dL_rules_215 : decode cL_rules 215 = .ok (.iconst 1, 1) := by decide +kernel
theorem dL_rules_216 : decode cL_rules 216 = .ok (.iconst 1, 1) := by decide +kernel
theorem dL_rules_217 : decode cL_rules 217 = .ok (.invokevirtual 47, 3) := by decide +kernel
theorem dL_rules_220 : decode cL_rules 220 = .ok (.bipush 8, 2) := by decide +kernel
theorem dL_rules_222 : decode cL_rules 222 = .ok (.if_icmp .ne 13, 3) := by decide +kernel
theorem dL_rules_225 : decode cL_rules 225 = .ok (.aload_n 0, 1) := by decide +kernel
theorem dL_rules_226 : decode cL_rules 226 = .ok (.iconst 1, 1) := by decide +kernel
theorem dL_rules_227 : decode cL_rules 227 = .ok (.iconst 2, 1) := by decide +kernel
theorem dL_rules_228 : decode cL_rules 228 = .ok (.invokevirtual 47, 3) := by decide +kernel
theorem dL_rules_231 : decode cL_rules 231 = .ok (.iconst 1, 1) := by decide +kernel
theorem dL_rules_232 : decode cL_rules 232 = .ok (.if_icmp .eq 5, 3) := by decide +kernel
theorem dL_rules_235 : decode cL_rules 235 = .ok (.iconst 0, 1) := by decide +kernel
theorem dL_rules_236 : decode cL_rules 236 = .ok (.ireturn, 1) := by decide +kernel
theorem dL_rules_237 : decode cL_rules 237 = .ok (.iconst 0, 1) := by decide +kernel
theorem dL_rules_238 : decode cL_rules 238 = .ok (.istore_n 1, 1) := by decide +kernel
theorem dL_rules_239 : decode cL_rules 239 = .ok (.iload_n 1, 1) := by decide +kernel
theorem dL_rules_240 : decode cL_rules 240 = .ok (.bipush 9, 2) := by decide +kernel
theorem dL_rules_242 : decode cL_rules 242 = .ok (.if_icmp .ge 95, 3) := by decide +kernel
theorem dL_rules_245 : decode cL_rules 245 = .ok (.aload_n 0, 1) := by decide +kernel
theorem dL_rules_246 : decode cL_rules 246 = .ok (.invokevirtual 104, 3) := by decide +kernel
theorem dL_rules_249 : decode cL_rules 249 = .ok (.ifCond .lt 80, 3) := by decide +kernel
theorem dL_rules_252 : decode cL_rules 252 = .ok (.aload_n 0, 1) := by decide +kernel
theorem dL_rules_253 : decode cL_rules 253 = .ok (.iconst 5, 1) := by decide +kernel
theorem dL_rules_254 : decode cL_rules 254 = .ok (.iconst 3, 1) := by decide +kernel
theorem dL_rules_255 : decode cL_rules 255 = .ok (.iload_n 1, 1) := by decide +kernel
theorem dL_rules_256 : decode cL_rules 256 = .ok (.imul, 1) := by decide +kernel
theorem dL_rules_257 : decode cL_rules 257 = .ok (.iconst 0, 1) := by decide +kernel
theorem dL_rules_258 : decode cL_rules 258 = .ok (.iconst 0, 1) := by decide +kernel
theorem dL_rules_259 : decode cL_rules 259 = .ok (.invokevirtual 19, 3) := by decide +kernel
theorem dL_rules_262 : decode cL_rules 262 = .ok (.iconst 1, 1) := by decide +kernel
theorem dL_rules_263 : decode cL_rules 263 = .ok (.if_icmp .ne 66, 3) := by decide +kernel
theorem dL_rules_266 : decode cL_rules 266 = .ok (.aload_n 0, 1) := by decide +kernel
theorem dL_rules_267 : decode cL_rules 267 = .ok (.iconst 0, 1) := by decide +kernel
theorem dL_rules_268 : decode cL_rules 268 = .ok (.iconst 0, 1) := by decide +kernel
theorem dL_rules_269 : decode cL_rules 269 = .ok (.invokevirtual 47, 3) := by decide +kernel
theorem dL_rules_272 : decode cL_rules 272 = .ok (.iconst 5, 1) := by decide +kernel
theorem dL_rules_273 : decode cL_rules 273 = .ok (.if_icmp .ne 56, 3) := by decide +kernel
theorem dL_rules_276 : decode cL_rules 276 = .ok (.aload_n 0, 1) := by decide +kernel
theorem dL_rules_277 : decode cL_rules 277 = .ok (.iconst 0, 1) := by decide +kernel
theorem dL_rules_278 : decode cL_rules 278 = .ok (.iconst 1, 1) := by decide +kernel
theorem dL_rules_279 : decode cL_rules 279 = .ok (.invokevirtual 47, 3) := by decide +kernel
theorem dL_rules_282 : decode cL_rules 282 = .ok (.iconst 3, 1) := by decide +kernel
theorem dL_rules_283 : decode cL_rules 283 = .ok (.iload_n 1, 1) := by decide +kernel
theorem dL_rules_284 : decode cL_rules 284 = .ok (.imul, 1) := by decide +kernel
theorem dL_rules_285 : decode cL_rules 285 = .ok (.if_icmp .ne 44, 3) := by decide +kernel
theorem dL_rules_288 : decode cL_rules 288 = .ok (.aload_n 0, 1) := by decide +kernel
theorem dL_rules_289 : decode cL_rules 289 = .ok (.iconst 0, 1) := by decide +kernel
theorem dL_rules_290 : decode cL_rules 290 = .ok (.iconst 0, 1) := by decide +kernel
theorem dL_rules_291 : decode cL_rules 291 = .ok (.invokevirtual 41, 3) := by decide +kernel
theorem dL_rules_294 : decode cL_rules 294 = .ok (.iconst 3, 1) := by decide +kernel
theorem dL_rules_295 : decode cL_rules 295 = .ok (.iload_n 1, 1) := by decide +kernel
theorem dL_rules_296 : decode cL_rules 296 = .ok (.imul, 1) := by decide +kernel
theorem dL_rules_297 : decode cL_rules 297 = .ok (.bipush 8, 2) := by decide +kernel
theorem dL_rules_299 : decode cL_rules 299 = .ok (.irem, 1) := by decide +kernel
theorem dL_rules_300 : decode cL_rules 300 = .ok (.if_icmp .ne 29, 3) := by decide +kernel
theorem dL_rules_303 : decode cL_rules 303 = .ok (.aload_n 0, 1) := by decide +kernel
theorem dL_rules_304 : decode cL_rules 304 = .ok (.iconst 0, 1) := by decide +kernel
theorem dL_rules_305 : decode cL_rules 305 = .ok (.iconst 3, 1) := by decide +kernel
theorem dL_rules_306 : decode cL_rules 306 = .ok (.invokevirtual 41, 3) := by decide +kernel
theorem dL_rules_309 : decode cL_rules 309 = .ok (.iconst 3, 1) := by decide +kernel
theorem dL_rules_310 : decode cL_rules 310 = .ok (.iload_n 1, 1) := by decide +kernel
theorem dL_rules_311 : decode cL_rules 311 = .ok (.imul, 1) := by decide +kernel
theorem dL_rules_312 : decode cL_rules 312 = .ok (.bipush 8, 2) := by decide +kernel
theorem dL_rules_314 : decode cL_rules 314 = .ok (.idiv, 1) := by decide +kernel
theorem dL_rules_315 : decode cL_rules 315 = .ok (.if_icmp .ne 14, 3) := by decide +kernel
theorem dL_rules_318 : decode cL_rules 318 = .ok (.aload_n 0, 1) := by decide +kernel
theorem dL_rules_319 : decode cL_rules 319 = .ok (.iconst 0, 1) := by decide +kernel
theorem dL_rules_320 : decode cL_rules 320 = .ok (.bipush 8, 2) := by decide +kernel
theorem dL_rules_322 : decode cL_rules 322 = .ok (.invokevirtual 41, 3) := by decide +kernel
theorem dL_rules_325 : decode cL_rules 325 = .ok (.iconst 3, 1) := by decide +kernel
theorem dL_rules_326 : decode cL_rules 326 = .ok (.if_icmp .eq 5, 3) := by decide +kernel
theorem dL_rules_329 : decode cL_rules 329 = .ok (.iconst 0, 1) := by decide +kernel
theorem dL_rules_330 : decode cL_rules 330 = .ok (.ireturn, 1) := by decide +kernel
theorem dL_rules_331 : decode cL_rules 331 = .ok (.iinc 1 1, 3) := by decide +kernel
theorem dL_rules_334 : decode cL_rules 334 = .ok (.goto (-95), 3) := by decide +kernel
theorem dL_rules_337 : decode cL_rules 337 = .ok (.iconst 1, 1) := by decide +kernel
theorem dL_rules_338 : decode cL_rules 338 = .ok (.istore_n 1, 1) := by decide +kernel
theorem dL_rules_339 : decode cL_rules 339 = .ok (.iload_n 1, 1) := by decide +kernel
theorem dL_rules_340 : decode cL_rules 340 = .ok (.bipush 14, 2) := by decide +kernel
theorem dL_rules_342 : decode cL_rules 342 = .ok (.if_icmp .ge 25, 3) := by decide +kernel
theorem dL_rules_345 : decode cL_rules 345 = .ok (.aload_n 0, 1) := by decide +kernel
theorem dL_rules_346 : decode cL_rules 346 = .ok (.iconst 5, 1) := by decide +kernel
theorem dL_rules_347 : decode cL_rules 347 = .ok (.iconst 3, 1) := by decide +kernel
theorem dL_rules_348 : decode cL_rules 348 = .ok (.iconst 0, 1) := by decide +kernel
theorem dL_rules_349 : decode cL_rules 349 = .ok (.iconst 0, 1) := by decide +kernel
theorem dL_rules_350 : decode cL_rules 350 = .ok (.invokevirtual 19, 3) := by decide +kernel
theorem dL_rules_353 : decode cL_rules 353 = .ok (.iload_n 1, 1) := by decide +kernel
theorem dL_rules_354 : decode cL_rules 354 = .ok (.iconst 1, 1) := by decide +kernel
theorem dL_rules_355 : decode cL_rules 355 = .ok (.iadd, 1) := by decide +kernel
theorem dL_rules_356 : decode cL_rules 356 = .ok (.if_icmp .eq 5, 3) := by decide +kernel
theorem dL_rules_359 : decode cL_rules 359 = .ok (.iconst 0, 1) := by decide +kernel
theorem dL_rules_360 : decode cL_rules 360 = .ok (.ireturn, 1) := by decide +kernel
theorem dL_rules_361 : decode cL_rules 361 = .ok (.iinc 1 1, 3) := by decide +kernel
theorem dL_rules_364 : decode cL_rules 364 = .ok (.goto (-25), 3) := by decide +kernel
theorem dL_rules_367 : decode cL_rules 367 = .ok (.iconst 0, 1) := by decide +kernel
theorem dL_rules_368 : decode cL_rules 368 = .ok (.istore_n 1, 1) := by decide +kernel
theorem dL_rules_369 : decode cL_rules 369 = .ok (.iload_n 1, 1) := by decide +kernel
theorem dL_rules_370 : decode cL_rules 370 = .ok (.bipush 9, 2) := by decide +kernel
theorem dL_rules_372 : decode cL_rules 372 = .ok (.if_icmp .ge 50, 3) := by decide +kernel
theorem dL_rules_375 : decode cL_rules 375 = .ok (.aload_n 0, 1) := by decide +kernel
theorem dL_rules_376 : decode cL_rules 376 = .ok (.iconst 4, 1) := by decide +kernel
theorem dL_rules_377 : decode cL_rules 377 = .ok (.iload_n 1, 1) := by decide +kernel
theorem dL_rules_378 : decode cL_rules 378 = .ok (.iconst 4, 1) := by decide +kernel
theorem dL_rules_379 : decode cL_rules 379 = .ok (.irem, 1) := by decide +kernel
theorem dL_rules_380 : decode cL_rules 380 = .ok (.iconst 1, 1) := by decide +kernel
theorem dL_rules_381 : decode cL_rules 381 = .ok (.if_icmp .ne 7, 3) := by decide +kernel
theorem dL_rules_384 : decode cL_rules 384 = .ok (.iconst 2, 1) := by decide +kernel
theorem dL_rules_385 : decode cL_rules 385 = .ok (.goto 6, 3) := by decide +kernel
theorem dL_rules_388 : decode cL_rules 388 = .ok (.iload_n 1, 1) := by decide +kernel
theorem dL_rules_389 : decode cL_rules 389 = .ok (.iconst 4, 1) := by decide +kernel
theorem dL_rules_390 : decode cL_rules 390 = .ok (.irem, 1) := by decide +kernel
theorem dL_rules_391 : decode cL_rules 391 = .ok (.iload_n 1, 1) := by decide +kernel
theorem dL_rules_392 : decode cL_rules 392 = .ok (.iload_n 1, 1) := by decide +kernel
theorem dL_rules_393 : decode cL_rules 393 = .ok (.iconst 0, 1) := by decide +kernel
theorem dL_rules_394 : decode cL_rules 394 = .ok (.invokestatic 90, 3) := by decide +kernel
theorem dL_rules_397 : decode cL_rules 397 = .ok (.iload_n 1, 1) := by decide +kernel
theorem dL_rules_398 : decode cL_rules 398 = .ok (.bipush 8, 2) := by decide +kernel
theorem dL_rules_400 : decode cL_rules 400 = .ok (.if_icmp .ge 9, 3) := by decide +kernel
theorem dL_rules_403 : decode cL_rules 403 = .ok (.iload_n 1, 1) := by decide +kernel
theorem dL_rules_404 : decode cL_rules 404 = .ok (.iconst 1, 1) := by decide +kernel
theorem dL_rules_405 : decode cL_rules 405 = .ok (.iadd, 1) := by decide +kernel
theorem dL_rules_406 : decode cL_rules 406 = .ok (.goto 5, 3) := by decide +kernel
theorem dL_rules_409 : decode cL_rules 409 = .ok (.bipush (-73), 2) := by decide +kernel
theorem dL_rules_411 : decode cL_rules 411 = .ok (.if_icmp .eq 5, 3) := by decide +kernel
theorem dL_rules_414 : decode cL_rules 414 = .ok (.iconst 0, 1) := by decide +kernel
theorem dL_rules_415 : decode cL_rules 415 = .ok (.ireturn, 1) := by decide +kernel
theorem dL_rules_416 : decode cL_rules 416 = .ok (.iinc 1 1, 3) := by decide +kernel
theorem dL_rules_419 : decode cL_rules 419 = .ok (.goto (-50), 3) := by decide +kernel
theorem dL_rules_422 : decode cL_rules 422 = .ok (.aload_n 0, 1) := by decide +kernel
theorem dL_rules_423 : decode cL_rules 423 = .ok (.bipush 30, 2) := by decide +kernel
theorem dL_rules_425 : decode cL_rules 425 = .ok (.bipush 14, 2) := by decide +kernel
theorem dL_rules_427 : decode cL_rules 427 = .ok (.iconst 1, 1) := by decide +kernel
theorem dL_rules_428 : decode cL_rules 428 = .ok (.iconst 0, 1) := by decide +kernel
theorem dL_rules_429 : decode cL_rules 429 = .ok (.invokestatic 100, 3) := by decide +kernel
theorem dL_rules_432 : decode cL_rules 432 = .ok (.ireturn, 1) := by decide +kernel
theorem dL_clips_0 : decode cL_clips 0 = .ok (.new 8, 3) := by decide +kernel
theorem dL_clips_3 : decode cL_clips 3 = .ok (.dup, 1) := by decide +kernel
theorem dL_clips_4 : decode cL_clips 4 = .ok (.invokespecial 99, 3) := by decide +kernel
theorem dL_clips_7 : decode cL_clips 7 = .ok (.astore_n 0, 1) := by decide +kernel
theorem dL_clips_8 : decode cL_clips 8 = .ok (.aload_n 0, 1) := by decide +kernel
theorem dL_clips_9 : decode cL_clips 9 = .ok (.iconst 0, 1) := by decide +kernel
theorem dL_clips_10 : decode cL_clips 10 = .ok (.invokevirtual 50, 3) := by decide +kernel
theorem dL_clips_13 : decode cL_clips 13 = .ok (.ifCond .ne 245, 3) := by decide +kernel
theorem dL_clips_16 : decode cL_clips 16 = .ok (.aload_n 0, 1) := by decide +kernel
theorem dL_clips_17 : decode cL_clips 17 = .ok (.iconst 1, 1) := by decide +kernel
theorem dL_clips_18 : decode cL_clips 18 = .ok (.invokevirtual 50, 3) := by decide +kernel
theorem dL_clips_21 : decode cL_clips 21 = .ok (.iconst 1, 1) := by decide +kernel
theorem dL_clips_22 : decode cL_clips 22 = .ok (.if_icmp .ne 236, 3) := by decide +kernel
theorem dL_clips_25 : decode cL_clips 25 = .ok (.aload_n 0, 1) := by decide +kernel
theorem dL_clips_26 : decode cL_clips 26 = .ok (.iconst 0, 1) := by decide +kernel
theorem dL_clips_27 : decode cL_clips 27 = .ok (.iconst 0, 1) := by decide +kernel
theorem dL_clips_28 : decode cL_clips 28 = .ok (.iconst (-1), 1) := by decide +kernel
theorem dL_clips_29 : decode cL_clips 29 = .ok (.invokevirtual 53, 3) := by decide +kernel
theorem dL_clips_32 : decode cL_clips 32 = .ok (.iconst 2, 1) := by decide +kernel
theorem dL_clips_33 : decode cL_clips 33 = .ok (.if_icmp .ne 225, 3) := by decide +kernel
theorem dL_clips_36 : decode cL_clips 36 = .ok (.aload_n 0, 1) := by decide +kernel
theorem dL_clips_37 : decode cL_clips 37 = .ok (.iconst 1, 1) := by decide +kernel
theorem dL_clips_38 : decode cL_clips 38 = .ok (.iconst 2, 1) := by decide +kernel
theorem dL_clips_39 : decode cL_clips 39 = .ok (.iconst 1, 1) := by decide +kernel
theorem dL_clips_40 : decode cL_clips 40 = .ok (.invokevirtual 53, 3) := by decide +kernel
theorem dL_clips_43 : decode cL_clips 43 = .ok (.iconst 3, 1) := by decide +kernel
theorem dL_clips_44 : decode cL_clips 44 = .ok (.if_icmp .ne 214, 3) := by decide +kernel
theorem dL_clips_47 : decode cL_clips 47 = .ok (.aload_n 0, 1) := by decide +kernel
theorem dL_clips_48 : decode cL_clips 48 = .ok (.iconst 3, 1) := by decide +kernel
theorem dL_clips_49 : decode cL_clips 49 = .ok (.invokevirtual 63, 3) := by decide +kernel
theorem dL_clips_52 : decode cL_clips 52 = .ok (.iconst 3, 1) := by decide +kernel
theorem dL_clips_53 : decode cL_clips 53 = .ok (.if_icmp .ne 205, 3) := by decide +kernel
theorem dL_clips_56 : decode cL_clips 56 = .ok (.aload_n 0, 1) := by decide +kernel
theorem dL_clips_57 : decode cL_clips 57 = .ok (.iconst 2, 1) := by decide +kernel
theorem dL_clips_58 : decode cL_clips 58 = .ok (.invokevirtual 63, 3) := by decide +kernel
theorem dL_clips_61 : decode cL_clips 61 = .ok (.iconst 1, 1) := by decide +kernel
theorem dL_clips_62 : decode cL_clips 62 = .ok (.if_icmp .ne 196, 3) := by decide +kernel
theorem dL_clips_65 : decode cL_clips 65 = .ok (.aload_n 0, 1) := by decide +kernel
theorem dL_clips_66 : decode cL_clips 66 = .ok (.iconst 1, 1) := by decide +kernel
theorem dL_clips_67 : decode cL_clips 67 = .ok (.iconst 1, 1) := by decide +kernel
theorem dL_clips_68 : decode cL_clips 68 = .ok (.iconst 0, 1) := by decide +kernel
theorem dL_clips_69 : decode cL_clips 69 = .ok (.invokevirtual 56, 3) := by decide +kernel
theorem dL_clips_72 : decode cL_clips 72 = .ok (.iconst 1, 1) := by decide +kernel
theorem dL_clips_73 : decode cL_clips 73 = .ok (.if_icmp .ne 185, 3) := by decide +kernel
theorem dL_clips_76 : decode cL_clips 76 = .ok (.aload_n 0, 1) := by decide +kernel
theorem dL_clips_77 : decode cL_clips 77 = .ok (.iconst 3, 1) := by decide +kernel
theorem dL_clips_78 : decode cL_clips 78 = .ok (.invokevirtual 63, 3) := by decide +kernel
theorem dL_clips_81 : decode cL_clips 81 = .ok (.ifCond .ne 177, 3) := by decide +kernel
theorem dL_clips_84 : decode cL_clips 84 = .ok (.aload_n 0, 1) := by decide +kernel
theorem dL_clips_85 : decode cL_clips 85 = .ok (.bipush 13, 2) := by decide +kernel
theorem dL_clips_87 : decode cL_clips 87 = .ok (.iconst 1, 1) := by decide +kernel
theorem dL_clips_88 : decode cL_clips 88 = .ok (.iconst 1, 1) := by decide +kernel
theorem dL_clips_89 : decode cL_clips 89 = .ok (.iconst (-1), 1) := by decide +kernel
theorem dL_clips_90 : decode cL_clips 90 = .ok (.iconst 0, 1) := by decide +kernel
theorem dL_clips_91 : decode cL_clips 91 = .ok (.invokestatic 90, 3) := by decide +kernel
theorem dL_clips_94 : decode cL_clips 94 = .ok (.bipush (-73), 2) := by decide +kernel
theorem dL_clips_96 : decode cL_clips 96 = .ok (.if_icmp .ne 162, 3) := by decide +kernel
theorem dL_clips_99 : decode cL_clips 99 = .ok (.aload_n 0, 1) := by decide +kernel
theorem dL_clips_100 : decode cL_clips 100 = .ok (.bipush 13, 2) := by decide +kernel
theorem dL_clips_102 : decode cL_clips 102 = .ok (.iconst 1, 1) := by decide +kernel
theorem dL_clips_103 : decode cL_clips 103 = .ok (.iconst 0, 1) := by decide +kernel
theorem dL_clips_104 : decode cL_clips 104 = .ok (.iconst 1, 1) := by decide +kernel
theorem dL_clips_105 : decode cL_clips 105 = .ok (.iconst 0, 1) := by decide +kernel
theorem dL_clips_106 : decode cL_clips 106 = .ok (.invokestatic 90, 3) := by decide +kernel
theorem dL_clips_109 : decode cL_clips 109 = .ok (.bipush (-73), 2) := by decide +kernel
theorem dL_clips_111 : decode cL_clips 111 = .ok (.if_icmp .ne 147, 3) := by decide +kernel
theorem dL_clips_114 : decode cL_clips 114 = .ok (.aload_n 0, 1) := by decide +kernel
theorem dL_clips_115 : decode cL_clips 115 = .ok (.iconst 2, 1) := by decide +kernel
theorem dL_clips_116 : decode cL_clips 116 = .ok (.iconst 1, 1) := by decide +kernel
theorem dL_clips_117 : decode cL_clips 117 = .ok (.iconst 0, 1) := by decide +kernel
theorem dL_clips_118 : decode cL_clips 118 = .ok (.invokevirtual 53, 3) := by decide +kernel
theorem dL_clips_121 : decode cL_clips 121 = .ok (.iconst 4, 1) := by decide +kernel
theorem dL_clips_122 : decode cL_clips 122 = .ok (.if_icmp .ne 136, 3) := by decide +kernel
theorem dL_clips_125 : decode cL_clips 125 = .ok (.aload_n 0, 1) := by decide +kernel
theorem dL_clips_126 : decode cL_clips 126 = .ok (.iconst 0, 1) := by decide +kernel
theorem dL_clips_127 : decode cL_clips 127 = .ok (.iconst 4, 1) := by decide +kernel
theorem dL_clips_128 : decode cL_clips 128 = .ok (.iconst 4, 1) := by decide +kernel
theorem dL_clips_129 : decode cL_clips 129 = .ok (.invokevirtual 53, 3) := by decide +kernel
theorem dL_clips_132 : decode cL_clips 132 = .ok (.iconst 5, 1) := by decide +kernel
theorem dL_clips_133 : decode cL_clips 133 = .ok (.if_icmp .ne 125, 3) := by decide +kernel
theorem dL_clips_136 : decode cL_clips 136 = .ok (.aload_n 0, 1) := by decide +kernel
theorem dL_clips_137 : decode cL_clips 137 = .ok (.iconst 5, 1) := by decide +kernel
theorem dL_clips_138 : decode cL_clips 138 = .ok (.invokevirtual 63, 3) := by decide +kernel
theorem dL_clips_141 : decode cL_clips 141 = .ok (.iconst 3, 1) := by decide +kernel
theorem dL_clips_142 : decode cL_clips 142 = .ok (.if_icmp .ne 116, 3) := by decide +kernel
theorem dL_clips_145 : decode cL_clips 145 = .ok (.aload_n 0, 1) := by decide +kernel
theorem dL_clips_146 : decode cL_clips 146 = .ok (.iconst 1, 1) := by decide +kernel
theorem dL_clips_147 : decode cL_clips 147 = .ok (.invokevirtual 60, 3) := by decide +kernel
theorem dL_clips_150 : decode cL_clips 150 = .ok (.iconst 3, 1) := by decide +kernel
theorem dL_clips_151 : decode cL_clips 151 = .ok (.if_icmp .ne 107, 3) := by decide +kernel
theorem dL_clips_154 : decode cL_clips 154 = .ok (.aload_n 0, 1) := by decide +kernel
theorem dL_clips_155 : decode cL_clips 155 = .ok (.iconst 1, 1) := by decide +kernel
theorem dL_clips_156 : decode cL_clips 156 = .ok (.invokevirtual 63, 3) := by decide +kernel
theorem dL_clips_159 : decode cL_clips 159 = .ok (.ifCond .ne 99, 3) := by decide +kernel
theorem dL_clips_162 : decode cL_clips 162 = .ok (.aload_n 0, 1) := by decide +kernel
theorem dL_clips_163 : decode cL_clips 163 = .ok (.iconst 5, 1) := by decide +kernel
theorem dL_clips_164 : decode cL_clips 164 = .ok (.invokevirtual 63, 3) := by decide +kernel
theorem dL_clips_167 : decode cL_clips 167 = .ok (.ifCond .ne 91, 3) := by decide +kernel
theorem dL_clips_170 : decode cL_clips 170 = .ok (.aload_n 0, 1) := by decide +kernel
theorem dL_clips_171 : decode cL_clips 171 = .ok (.bipush 13, 2) := by decide +kernel
theorem dL_clips_173 : decode cL_clips 173 = .ok (.iconst 0, 1) := by decide +kernel
theorem dL_clips_174 : decode cL_clips 174 = .ok (.iconst 1, 1) := by decide +kernel
theorem dL_clips_175 : decode cL_clips 175 = .ok (.iconst (-1), 1) := by decide +kernel
theorem dL_clips_176 : decode cL_clips 176 = .ok (.iconst 0, 1) := by decide +kernel
theorem dL_clips_177 : decode cL_clips 177 = .ok (.invokestatic 90, 3) := by decide +kernel
theorem dL_clips_180 : decode cL_clips 180 = .ok (.bipush (-71), 2) := by decide +kernel
theorem dL_clips_182 : decode cL_clips 182 = .ok (.if_icmp .ne 76, 3) := by decide +kernel
theorem dL_clips_185 : decode cL_clips 185 = .ok (.aload_n 0, 1) := by decide +kernel
theorem dL_clips_186 : decode cL_clips 186 = .ok (.bipush 13, 2) := by decide +kernel
theorem dL_clips_188 : decode cL_clips 188 = .ok (.iconst 0, 1) := by decide +kernel
theorem dL_clips_189 : decode cL_clips 189 = .ok (.iconst 0, 1) := by decide +kernel
theorem dL_clips_190 : decode cL_clips 190 = .ok (.iconst 1, 1) := by decide +kernel
theorem dL_clips_191 : decode cL_clips 191 = .ok (.iconst 0, 1) := by decide +kernel
theorem dL_clips_192 : decode cL_clips 192 = .ok (.invokestatic 90, 3) := by decide +kernel
theorem dL_clips_195 : decode cL_clips 195 = .ok (.bipush (-71), 2) := by decide +kernel
theorem dL_clips_197 : decode cL_clips 197 = .ok (.if_icmp .ne 61, 3) := by decide +kernel
theorem dL_clips_200 : decode cL_clips 200 = .ok (.aload_n 0, 1) := by decide +kernel
theorem dL_clips_201 : decode cL_clips 201 = .ok (.iconst 1, 1) := by decide +kernel
theorem dL_clips_202 : decode cL_clips 202 = .ok (.invokevirtual 60, 3) := by decide +kernel
theorem dL_clips_205 : decode cL_clips 205 = .ok (.ifCond .ne 53, 3) := by decide +kernel
theorem dL_clips_208 : decode cL_clips 208 = .ok (.aload_n 0, 1) := by decide +kernel
theorem dL_clips_209 : decode cL_clips 209 = .ok (.iconst 1, 1) := by decide +kernel
theorem dL_clips_210 : decode cL_clips 210 = .ok (.iconst 1, 1) := by decide +kernel
theorem dL_clips_211 : decode cL_clips 211 = .ok (.iconst 1, 1) := by decide +kernel
theorem dL_clips_212 : decode cL_clips 212 = .ok (.invokevirtual 56, 3) := by decide +kernel
theorem dL_clips_215 : decode cL_clips 215 = .ok (.ifCond .ne 43, 3) := by decide +kernel
theorem dL_clips_218 : decode cL_clips 218 = .ok (.aload_n 0, 1) := by decide +kernel
theorem dL_clips_219 : decode cL_clips 219 = .ok (.iconst 1, 1) := by decide +kernel
theorem dL_clips_220 : decode cL_clips 220 = .ok (.invokevirtual 50, 3) := by decide +kernel
theorem dL_clips_223 : decode cL_clips 223 = .ok (.bipush 6, 2) := by decide +kernel
theorem dL_clips_225 : decode cL_clips 225 = .ok (.if_icmp .ne 33, 3) := by decide +kernel
theorem dL_clips_228 : decode cL_clips 228 = .ok (.aload_n 0, 1) := by decide +kernel
theorem dL_clips_229 : decode cL_clips 229 = .ok (.iconst 1, 1) := by decide +kernel
theorem dL_clips_230 : decode cL_clips 230 = .ok (.bipush 6, 2) := by decide +kernel
theorem dL_clips_232 : decode cL_clips 232 = .ok (.iconst (-1), 1) := by decide +kernel
theorem dL_clips_233 : decode cL_clips 233 = .ok (.invokevirtual 53, 3) := by decide +kernel
theorem dL_clips_236 : decode cL_clips 236 = .ok (.bipush 7, 2) := by decide +kernel
theorem dL_clips_238 : decode cL_clips 238 = .ok (.if_icmp .ne 20, 3) := by decide +kernel
theorem dL_clips_241 : decode cL_clips 241 = .ok (.aload_n 0, 1) := by decide +kernel
theorem dL_clips_242 : decode cL_clips 242 = .ok (.iconst 0, 1) := by decide +kernel
theorem dL_clips_243 : decode cL_clips 243 = .ok (.invokevirtual 60, 3) := by decide +kernel
theorem dL_clips_246 : decode cL_clips 246 = .ok (.iconst 2, 1) := by decide +kernel
theorem dL_clips_247 : decode cL_clips 247 = .ok (.if_icmp .ne 11, 3) := by decide +kernel
theorem dL_clips_250 : decode cL_clips 250 = .ok (.aload_n 0, 1) := by decide +kernel
theorem dL_clips_251 : decode cL_clips 251 = .ok (.iconst 0, 1) := by decide +kernel
theorem dL_clips_252 : decode cL_clips 252 = .ok (.invokevirtual 63, 3) := by decide +kernel
theorem dL_clips_255 : decode cL_clips 255 = .ok (.ifCond .eq 5, 3) := by decide +kernel
theorem dL_clips_258 : decode cL_clips 258 = .ok (.iconst 0, 1) := by decide +kernel
theorem dL_clips_259 : decode cL_clips 259 = .ok (.ireturn, 1) := by decide +kernel
theorem dL_clips_260 : decode cL_clips 260 = .ok (.aload_n 0, 1) := by decide +kernel
theorem dL_clips_261 : decode cL_clips 261 = .ok (.bipush 6, 2) := by decide +kernel
theorem dL_clips_263 : decode cL_clips 263 = .ok (.iconst 0, 1) := by decide +kernel
theorem dL_clips_264 : decode cL_clips 264 = .ok (.iconst 0, 1) := by decide +kernel
theorem dL_clips_265 : decode cL_clips 265 = .ok (.bipush 10, 2) := by decide +kernel
theorem dL_clips_267 : decode cL_clips 267 = .ok (.bipush 20, 2) := by decide +kernel
theorem dL_clips_269 : decode cL_clips 269 = .ok (.iconst 3, 1) := by decide +kernel
theorem dL_clips_270 : decode cL_clips 270 = .ok (.invokestatic 94, 3) := by decide +kernel
theorem dL_clips_273 : decode cL_clips 273 = .ok (.iconst 1, 1) := by decide +kernel
theorem dL_clips_274 : decode cL_clips 274 = .ok (.if_icmp .ne 354, 3) := by decide +kernel
theorem dL_clips_277 : decode cL_clips 277 = .ok (.aload_n 0, 1) := by decide +kernel
theorem dL_clips_278 : decode cL_clips 278 = .ok (.bipush 6, 2) := by decide +kernel
theorem dL_clips_280 : decode cL_clips 280 = .ok (.iconst 0, 1) := by decide +kernel
theorem dL_clips_281 : decode cL_clips 281 = .ok (.iconst 0, 1) := by decide +kernel
theorem dL_clips_282 : decode cL_clips 282 = .ok (.bipush 15, 2) := by decide +kernel
theorem dL_clips_284 : decode cL_clips 284 = .ok (.bipush 16, 2) := by decide +kernel
theorem dL_clips_286 : decode cL_clips 286 = .ok (.iconst 3, 1) := by decide +kernel
theorem dL_clips_287 : decode cL_clips 287 = .ok (.invokestatic 94, 3) := by decide +kernel
theorem dL_clips_290 : decode cL_clips 290 = .ok (.bipush (-73), 2) := by decide +kernel
theorem dL_clips_292 : decode cL_clips 292 = .ok (.if_icmp .ne 336, 3) := by decide +kernel
theorem dL_clips_295 : decode cL_clips 295 = .ok (.aload_n 0, 1) := by decide +kernel
theorem dL_clips_296 : decode cL_clips 296 = .ok (.bipush 6, 2) := by decide +kernel
theorem dL_clips_298 : decode cL_clips 298 = .ok (.iconst 0, 1) := by decide +kernel
theorem dL_clips_299 : decode cL_clips 299 = .ok (.iconst 0, 1) := by decide +kernel
theorem dL_clips_300 : decode cL_clips 300 = .ok (.bipush 20, 2) := by decide +kernel
theorem dL_clips_302 : decode cL_clips 302 = .ok (.bipush 24, 2) := by decide +kernel
theorem dL_clips_304 : decode cL_clips 304 = .ok (.iconst 4, 1) := by decide +kernel
theorem dL_clips_305 : decode cL_clips 305 = .ok (.invokestatic 94, 3) := by decide +kernel
theorem dL_clips_308 : decode cL_clips 308 = .ok (.iconst 2, 1) := by decide +kernel
theorem dL_clips_309 : decode cL_clips 309 = .ok (.if_icmp .ne 319, 3) := by decide +kernel
theorem dL_clips_312 : decode cL_clips 312 = .ok (.aload_n 0, 1) := by decide +kernel
theorem dL_clips_313 : decode cL_clips 313 = .ok (.bipush 6, 2) := by decide +kernel
theorem dL_clips_315 : decode cL_clips 315 = .ok (.iconst 1, 1) := by decide +kernel
theorem dL_clips_316 : decode cL_clips 316 = .ok (.iconst 0, 1) := by decide +kernel
theorem dL_clips_317 : decode cL_clips 317 = .ok (.bipush 14, 2) := by decide +kernel
theorem dL_clips_319 : decode cL_clips 319 = .ok (.bipush 22, 2) := by decide +kernel
theorem dL_clips_321 : decode cL_clips 321 = .ok (.iconst 3, 1) := by decide +kernel
theorem dL_clips_322 : decode cL_clips 322 = .ok (.invokestatic 94, 3) := by decide +kernel
theorem dL_clips_325 : decode cL_clips 325 = .ok (.iconst 1, 1) := by decide +kernel
theorem dL_clips_326 : decode cL_clips 326 = .ok (.if_icmp .ne 302, 3) := by decide +kernel
theorem dL_clips_329 : decode cL_clips 329 = .ok (.aload_n 0, 1) := by decide +kernel
theorem dL_clips_330 : decode cL_clips 330 = .ok (.bipush 6, 2) := by decide +kernel
theorem dL_clips_332 : decode cL_clips 332 = .ok (.iconst 0, 1) := by decide +kernel
theorem dL_clips_333 : decode cL_clips 333 = .ok (.iconst 1, 1) := by decide +kernel
theorem dL_clips_334 : decode cL_clips 334 = .ok (.bipush 15, 2) := by decide +kernel
theorem dL_clips_336 : decode cL_clips 336 = .ok (.bipush 16, 2) := by decide +kernel
theorem dL_clips_338 : decode cL_clips 338 = .ok (.iconst 0, 1) := by decide +kernel
theorem dL_clips_339 : decode cL_clips 339 = .ok (.invokestatic 94, 3) := by decide +kernel
theorem dL_clips_342 : decode cL_clips 342 = .ok (.iconst 1, 1) := by decide +kernel
theorem dL_clips_343 : decode cL_clips 343 = .ok (.if_icmp .ne 285, 3) := by decide +kernel
theorem dL_clips_346 : decode cL_clips 346 = .ok (.aload_n 0, 1) := by decide +kernel
theorem dL_clips_347 : decode cL_clips 347 = .ok (.bipush 6, 2) := by decide +kernel
theorem dL_clips_349 : decode cL_clips 349 = .ok (.iconst 0, 1) := by decide +kernel
theorem dL_clips_350 : decode cL_clips 350 = .ok (.iconst 0, 1) := by decide +kernel
theorem dL_clips_351 : decode cL_clips 351 = .ok (.iconst 5, 1) := by decide +kernel
theorem dL_clips_352 : decode cL_clips 352 = .ok (.iconst 5, 1) := by decide +kernel
theorem dL_clips_353 : decode cL_clips 353 = .ok (.iconst 0, 1) := by decide +kernel
theorem dL_clips_354 : decode cL_clips 354 = .ok (.invokestatic 94, 3) := by decide +kernel
theorem dL_clips_357 : decode cL_clips 357 = .ok (.bipush (-72), 2) := by decide +kernel
theorem dL_clips_359 : decode cL_clips 359 = .ok (.if_icmp .ne 269, 3) := by decide +kernel
theorem dL_clips_362 : decode cL_clips 362 = .ok (.aload_n 0, 1) := by decide +kernel
theorem dL_clips_363 : decode cL_clips 363 = .ok (.bipush 6, 2) := by decide +kernel
theorem dL_clips_365 : decode cL_clips 365 = .ok (.iconst 0, 1) := by decide +kernel
theorem dL_clips_366 : decode cL_clips 366 = .ok (.iconst 0, 1) := by decide +kernel
theorem dL_clips_367 : decode cL_clips 367 = .ok (.bipush 6, 2) := by decide +kernel
theorem dL_clips_369 : decode cL_clips 369 = .ok (.iconst 5, 1) := by decide +kernel
theorem dL_clips_370 : decode cL_clips 370 = .ok (.iconst 0, 1) := by decide +kernel
theorem dL_clips_371 : decode cL_clips 371 = .ok (.invokestatic 94, 3) := by decide +kernel
theorem dL_clips_374 : decode cL_clips 374 = .ok (.bipush (-72), 2) := by decide +kernel
theorem dL_clips_376 : decode cL_clips 376 = .ok (.if_icmp .ne 252, 3) := by decide +kernel
theorem dL_clips_379 : decode cL_clips 379 = .ok (.aload_n 0, 1) := by decide +kernel
theorem dL_clips_380 : decode cL_clips 380 = .ok (.bipush 6, 2) := by decide +kernel
theorem dL_clips_382 : decode cL_clips 382 = .ok (.iconst 0, 1) := by decide +kernel
theorem dL_clips_383 : decode cL_clips 383 = .ok (.iconst 0, 1) := by decide +kernel
theorem dL_clips_384 : decode cL_clips 384 = .ok (.sipush 199, 3) := by decide +kernel
theorem dL_clips_387 : decode cL_clips 387 = .ok (.sipush 201, 3) := by decide +kernel
theorem dL_clips_390 : decode cL_clips 390 = .ok (.iconst 0, 1) := by decide +kernel
theorem dL_clips_391 : decode cL_clips 391 = .ok (.invokestatic 94, 3) := by decide +kernel
theorem dL_clips_394 : decode cL_clips 394 = .ok (.bipush (-72), 2) := by decide +kernel
theorem dL_clips_396 : decode cL_clips 396 = .ok (.if_icmp .ne 232, 3) := by decide +kernel
theorem dL_clips_399 : decode cL_clips 399 = .ok (.aload_n 0, 1) := by decide +kernel
theorem dL_clips_400 : decode cL_clips 400 = .ok (.bipush 6, 2) := by decide +kernel
theorem dL_clips_402 : decode cL_clips 402 = .ok (.iconst 0, 1) := by decide +kernel
theorem dL_clips_403 : decode cL_clips 403 = .ok (.iconst 0, 1) := by decide +kernel
theorem dL_clips_404 : decode cL_clips 404 = .ok (.iconst (-1), 1) := by decide +kernel
theorem dL_clips_405 : decode cL_clips 405 = .ok (.iconst 3, 1) := by decide +kernel
theorem dL_clips_406 : decode cL_clips 406 = .ok (.iconst 0, 1) := by decide +kernel
theorem dL_clips_407 : decode cL_clips 407 = .ok (.invokestatic 94, 3) := by decide +kernel
theorem dL_clips_410 : decode cL_clips 410 = .ok (.bipush (-72), 2) := by decide +kernel
theorem dL_clips_412 : decode cL_clips 412 = .ok (.if_icmp .ne 216, 3) := by decide +kernel
theorem dL_clips_415 : decode cL_clips 415 = .ok (.aload_n 0, 1) := by decide +kernel
theorem dL_clips_416 : decode cL_clips 416 = .ok (.bipush 6, 2) := by decide +kernel
theorem dL_clips_418 : decode cL_clips 418 = .ok (.iconst 0, 1) := by decide +kernel
theorem dL_clips_419 : decode cL_clips 419 = .ok (.iconst 0, 1) := by decide +kernel
theorem dL_clips_420 : decode cL_clips 420 = .ok (.iconst 0, 1) := by decide +kernel
theorem dL_clips_421 : decode cL_clips 421 = .ok (.iconst 3, 1) := by decide +kernel
theorem dL_clips_422 : decode cL_clips 422 = .ok (.bipush 10, 2) := by decide +kernel
theorem dL_clips_424 : decode cL_clips 424 = .ok (.invokestatic 94, 3) := by decide +kernel
theorem dL_clips_427 : decode cL_clips 427 = .ok (.bipush (-72), 2) := by decide +kernel
theorem dL_clips_429 : decode cL_clips 429 = .ok (.if_icmp .ne 199, 3) := by decide +kernel
theorem dL_clips_432 : decode cL_clips 432 = .ok (.aload_n 0, 1) := by decide +kernel
theorem dL_clips_433 : decode cL_clips 433 = .ok (.iconst 0, 1) := by decide +kernel
theorem dL_clips_434 : decode cL_clips 434 = .ok (.iconst 0, 1) := by decide +kernel
theorem dL_clips_435 : decode cL_clips 435 = .ok (.iconst 0, 1) := by decide +kernel
theorem dL_clips_436 : decode cL_clips 436 = .ok (.iconst 0, 1) := by decide +kernel
theorem dL_clips_437 : decode cL_clips 437 = .ok (.iconst 1, 1) := by decide +kernel
theorem dL_clips_438 : decode cL_clips 438 = .ok (.iconst 0, 1) := by decide +kernel
theorem dL_clips_439 : decode cL_clips 439 = .ok (.invokestatic 94, 3) := by decide +kernel
theorem dL_clips_442 : decode cL_clips 442 = .ok (.bipush (-71), 2) := by decide +kernel
theorem dL_clips_444 : decode cL_clips 444 = .ok (.if_icmp .ne 184, 3) := by decide +kernel
theorem dL_clips_447 : decode cL_clips 447 = .ok (.aload_n 0, 1) := by decide +kernel
theorem dL_clips_448 : decode cL_clips 448 = .ok (.bipush 6, 2) := by decide +kernel
theorem dL_clips_450 : decode cL_clips 450 = .ok (.iconst 0, 1) := by decide +kernel
theorem dL_clips_451 : decode cL_clips 451 = .ok (.iconst 1, 1) := by decide +kernel
theorem dL_clips_452 : decode cL_clips 452 = .ok (.iconst 0, 1) := by decide +kernel
theorem dL_clips_453 : decode cL_clips 453 = .ok (.iconst 0, 1) := by decide +kernel
theorem dL_clips_454 : decode cL_clips 454 = .ok (.invokestatic 97, 3) := by decide +kernel
theorem dL_clips_457 : decode cL_clips 457 = .ok (.bipush 6, 2) := by decide +kernel
theorem dL_clips_459 : decode cL_clips 459 = .ok (.if_icmp .ne 169, 3) := by decide +kernel
theorem dL_clips_462 : decode cL_clips 462 = .ok (.aload_n 0, 1) := by decide +kernel
theorem dL_clips_463 : decode cL_clips 463 = .ok (.bipush 6, 2) := by decide +kernel
theorem dL_clips_465 : decode cL_clips 465 = .ok (.iconst 0, 1) := by decide +kernel
theorem dL_clips_466 : decode cL_clips 466 = .ok (.iconst 1, 1) := by decide +kernel
theorem dL_clips_467 : decode cL_clips 467 = .ok (.iconst 0, 1) := by decide +kernel
theorem dL_clips_468 : decode cL_clips 468 = .ok (.iconst 1, 1) := by decide +kernel
theorem dL_clips_469 : decode cL_clips 469 = .ok (.invokestatic 97, 3) := by decide +kernel
theorem dL_clips_472 : decode cL_clips 472 = .ok (.bipush 14, 2) := by decide +kernel
theorem dL_clips_474 : decode cL_clips 474 = .ok (.if_icmp .ne 154, 3) := by decide +kernel
theorem dL_clips_477 : decode cL_clips 477 = .ok (.aload_n 0, 1) := by decide +kernel
theorem dL_clips_478 : decode cL_clips 478 = .ok (.bipush 6, 2) := by decide +kernel
theorem dL_clips_480 : decode cL_clips 480 = .ok (.iconst 0, 1) := by decide +kernel
theorem dL_clips_481 : decode cL_clips 481 = .ok (.iconst 1, 1) := by decide +kernel
theorem dL_clips_482 : decode cL_clips 482 = .ok (.iconst 0, 1) := by decide +kernel
theorem dL_clips_483 : decode cL_clips 483 = .ok (.iconst 2, 1) := by decide +kernel
theorem dL_clips_484 : decode cL_clips 484 = .ok (.invokestatic 97, 3) := by decide +kernel
theorem dL_clips_487 : decode cL_clips 487 = .ok (.iconst 1, 1) := by decide +kernel
theorem dL_clips_488 : decode cL_clips 488 = .ok (.if_icmp .ne 140, 3) := by decide +kernel
theorem dL_clips_491 : decode cL_clips 491 = .ok (.aload_n 0, 1) := by decide +kernel
theorem dL_clips_492 : decode cL_clips 492 = .ok (.bipush 6, 2) := by decide +kernel
theorem dL_clips_494 : decode cL_clips 494 = .ok (.iconst 1, 1) := by decide +kernel
theorem dL_clips_495 : decode cL_clips 495 = .ok (.iconst 0, 1) := by decide +kernel
theorem dL_clips_496 : decode cL_clips 496 = .ok (.iconst 0, 1) := by decide +kernel
theorem dL_clips_497 : decode cL_clips 497 = .ok (.iconst 2, 1) := by decide +kernel
theorem dL_clips_498 : decode cL_clips 498 = .ok (.invokestatic 97, 3) := by decide +kernel
theorem dL_clips_501 : decode cL_clips 501 = .ok (.iconst 1, 1) := by decide +kernel
theorem dL_clips_502 : decode cL_clips 502 = .ok (.if_icmp .ne 126, 3) := by decide +kernel
theorem dL_clips_505 : decode cL_clips 505 = .ok (.aload_n 0, 1) := by decide +kernel
theorem dL_clips_506 : decode cL_clips 506 = .ok (.bipush 6, 2) := by decide +kernel
theorem dL_clips_508 : decode cL_clips 508 = .ok (.iconst 0, 1) := by decide +kernel
theorem dL_clips_509 : decode cL_clips 509 = .ok (.iconst 0, 1) := by decide +kernel
theorem dL_clips_510 : decode cL_clips 510 = .ok (.iconst 0, 1) := by decide +kernel
theorem dL_clips_511 : decode cL_clips 511 = .ok (.iconst 2, 1) := by decide +kernel
theorem dL_clips_512 : decode cL_clips 512 = .ok (.invokestatic 97, 3) := by decide +kernel
theorem dL_clips_515 : decode cL_clips 515 = .ok (.iconst 2, 1) := by decide +kernel
theorem dL_clips_516 : decode cL_clips 516 = .ok (.if_icmp .ne 112, 3) := by decide +kernel
theorem dL_clips_519 : decode cL_clips 519 = .ok (.aload_n 0, 1) := by decide +kernel
theorem dL_clips_520 : decode cL_clips 520 = .ok (.bipush 6, 2) := by decide +kernel
theorem dL_clips_522 : decode cL_clips 522 = .ok (.iconst 0, 1) := by decide +kernel
theorem dL_clips_523 : decode cL_clips 523 = .ok (.iconst 2, 1) := by decide +kernel
theorem dL_clips_524 : decode cL_clips 524 = .ok (.iconst 0, 1) := by decide +kernel
theorem dL_clips_525 : decode cL_clips 525 = .ok (.iconst 1, 1) := by decide +kernel
theorem dL_clips_526 : decode cL_clips 526 = .ok (.invokestatic 97, 3) := by decide +kernel
theorem dL_clips_529 : decode cL_clips 529 = .ok (.bipush 14, 2) := by decide +kernel
theorem dL_clips_531 : decode cL_clips 531 = .ok (.if_icmp .ne 97, 3) := by decide +kernel
theorem dL_clips_534 : decode cL_clips 534 = .ok (.aload_n 0, 1) := by decide +kernel
theorem dL_clips_535 : decode cL_clips 535 = .ok (.bipush 6, 2) := by decide +kernel
theorem dL_clips_537 : decode cL_clips 537 = .ok (.iconst 0, 1) := by decide +kernel
theorem dL_clips_538 : decode cL_clips 538 = .ok (.iconst 2, 1) := by decide +kernel
theorem dL_clips_539 : decode cL_clips 539 = .ok (.iconst 0, 1) := by decide +kernel
theorem dL_clips_540 : decode cL_clips 540 = .ok (.iconst 0, 1) := by decide +kernel
theorem dL_clips_541 : decode cL_clips 541 = .ok (.invokestatic 97, 3) := by decide +kernel
theorem dL_clips_544 : decode cL_clips 544 = .ok (.ifCond .ne 84, 3) := by decide +kernel
theorem dL_clips_547 : decode cL_clips 547 = .ok (.aload_n 0, 1) := by decide +kernel
theorem dL_clips_548 : decode cL_clips 548 = .ok (.bipush 6, 2) := by decide +kernel
theorem dL_clips_550 : decode cL_clips 550 = .ok (.iconst 0, 1) := by decide +kernel
theorem dL_clips_551 : decode cL_clips 551 = .ok (.iconst 1, 1) := by decide +kernel
theorem dL_clips_552 : decode cL_clips 552 = .ok (.iconst 0, 1) := by decide +kernel
theorem dL_clips_553 : decode cL_clips 553 = .ok (.iconst 3, 1) := by decide +kernel
theorem dL_clips_554 : decode cL_clips 554 = .ok (.invokestatic 97, 3) := by decide +kernel
theorem dL_clips_557 : decode cL_clips 557 = .ok (.bipush (-72), 2) := by decide +kernel
theorem dL_clips_559 : decode cL_clips 559 = .ok (.if_icmp .ne 69, 3) := by decide +kernel
theorem dL_clips_562 : decode cL_clips 562 = .ok (.aload_n 0, 1) := by decide +kernel
theorem dL_clips_563 : decode cL_clips 563 = .ok (.bipush 7, 2) := by decide +kernel
theorem dL_clips_565 : decode cL_clips 565 = .ok (.iconst 0, 1) := by decide +kernel
theorem dL_clips_566 : decode cL_clips 566 = .ok (.iconst 1, 1) := by decide +kernel
theorem dL_clips_567 : decode cL_clips 567 = .ok (.iconst 0, 1) := by decide +kernel
theorem dL_clips_568 : decode cL_clips 568 = .ok (.iconst 1, 1) := by decide +kernel
theorem dL_clips_569 : decode cL_clips 569 = .ok (.invokestatic 97, 3) := by decide +kernel
theorem dL_clips_572 : decode cL_clips 572 = .ok (.ifCond .ne 56, 3) := by decide +kernel
theorem dL_clips_575 : decode cL_clips 575 = .ok (.aload_n 0, 1) := by decide +kernel
theorem dL_clips_576 : decode cL_clips 576 = .ok (.bipush 6, 2) := by decide +kernel
theorem dL_clips_578 : decode cL_clips 578 = .ok (.iconst 2, 1) := by decide +kernel
theorem dL_clips_579 : decode cL_clips 579 = .ok (.iconst 3, 1) := by decide +kernel
theorem dL_clips_580 : decode cL_clips 580 = .ok (.sipush 199, 3) := by decide +kernel
theorem dL_clips_583 : decode cL_clips 583 = .ok (.sipush 200, 3) := by decide +kernel
theorem dL_clips_586 : decode cL_clips 586 = .ok (.bipush 9, 2) := by decide +kernel
theorem dL_clips_588 : decode cL_clips 588 = .ok (.invokestatic 94, 3) := by decide +kernel
theorem dL_clips_591 : decode cL_clips 591 = .ok (.iconst 1, 1) := by decide +kernel
theorem dL_clips_592 : decode cL_clips 592 = .ok (.if_icmp .ne 36, 3) := by decide +kernel
theorem dL_clips_595 : decode cL_clips 595 = .ok (.aload_n 0, 1) := by decide +kernel
theorem dL_clips_596 : decode cL_clips 596 = .ok (.bipush 6, 2) := by decide +kernel
theorem dL_clips_598 : decode cL_clips 598 = .ok (.iconst 2, 1) := by decide +kernel
theorem dL_clips_599 : decode cL_clips 599 = .ok (.iconst 3, 1) := by decide +kernel
theorem dL_clips_600 : decode cL_clips 600 = .ok (.iconst 0, 1) := by decide +kernel
theorem dL_clips_601 : decode cL_clips 601 = .ok (.sipush 199, 3) := by decide +kernel
theorem dL_clips_604 : decode cL_clips 604 = .ok (.iconst 0, 1) := by decide +kernel
theorem dL_clips_605 : decode cL_clips 605 = .ok (.invokestatic 94, 3) := by decide +kernel
theorem dL_clips_608 : decode cL_clips 608 = .ok (.iconst 2, 1) := by decide +kernel
theorem dL_clips_609 : decode cL_clips 609 = .ok (.if_icmp .ne 19, 3) := by decide +kernel
theorem dL_clips_612 : decode cL_clips 612 = .ok (.aload_n 0, 1) := by decide +kernel
theorem dL_clips_613 : decode cL_clips 613 = .ok (.bipush 6, 2) := by decide +kernel
theorem dL_clips_615 : decode cL_clips 615 = .ok (.iconst 2, 1) := by decide +kernel
theorem dL_clips_616 : decode cL_clips 616 = .ok (.iconst 2, 1) := by decide +kernel
theorem dL_clips_617 : decode cL_clips 617 = .ok (.iconst 3, 1) := by decide +kernel
theorem dL_clips_618 : decode cL_clips 618 = .ok (.iconst 0, 1) := by decide +kernel
theorem dL_clips_619 : decode cL_clips 619 = .ok (.invokestatic 97, 3) := by decide +kernel
theorem dL_clips_622 : decode cL_clips 622 = .ok (.sipush 200, 3) := by decide +kernel
theorem dL_clips_625 : decode cL_clips 625 = .ok (.if_icmp .eq 5, 3) := by decide +kernel
theorem dL_clips_628 : decode cL_clips 628 = .ok (.iconst 0, 1) := by decide +kernel
theorem dL_clips_629 : decode cL_clips 629 = .ok (.ireturn, 1) := by decide +kernel
theorem dL_clips_630 : decode cL_clips 630 = .ok (.iconst 0, 1) := by decide +kernel
theorem dL_clips_631 : decode cL_clips 631 = .ok (.istore_n 1, 1) := by decide +kernel
theorem dL_clips_632 : decode cL_clips 632 = .ok (.iload_n 1, 1) := by decide +kernel
theorem dL_clips_633 : decode cL_clips 633 = .ok (.bipush 11, 2) := by decide +kernel
theorem dL_clips_635 : decode cL_clips 635 = .ok (.if_icmp .ge 48, 3) := by decide +kernel
theorem dL_clips_638 : decode cL_clips 638 = .ok (.aload_n 0, 1) := by decide +kernel
theorem dL_clips_639 : decode cL_clips 639 = .ok (.bipush 7, 2) := by decide +kernel
theorem dL_clips_641 : decode cL_clips 641 = .ok (.iconst 1, 1) := by decide +kernel
theorem dL_clips_642 : decode cL_clips 642 = .ok (.iconst 2, 1) := by decide +kernel
theorem dL_clips_643 : decode cL_clips 643 = .ok (.iconst 2, 1) := by decide +kernel
theorem dL_clips_644 : decode cL_clips 644 = .ok (.iload_n 1, 1) := by decide +kernel
theorem dL_clips_645 : decode cL_clips 645 = .ok (.imul, 1) := by decide +kernel
theorem dL_clips_646 : decode cL_clips 646 = .ok (.iconst 2, 1) := by decide +kernel
theorem dL_clips_647 : decode cL_clips 647 = .ok (.iload_n 1, 1) := by decide +kernel
theorem dL_clips_648 : decode cL_clips 648 = .ok (.imul, 1) := by decide +kernel
theorem dL_clips_649 : decode cL_clips 649 = .ok (.iconst 1, 1) := by decide +kernel
theorem dL_clips_650 : decode cL_clips 650 = .ok (.iadd, 1) := by decide +kernel
theorem dL_clips_651 : decode cL_clips 651 = .ok (.iload_n 1, 1) := by decide +kernel
theorem dL_clips_652 : decode cL_clips 652 = .ok (.bipush 10, 2) := by decide +kernel
theorem dL_clips_654 : decode cL_clips 654 = .ok (.irem, 1) := by decide +kernel
theorem dL_clips_655 : decode cL_clips 655 = .ok (.invokestatic 94, 3) := by decide +kernel
theorem dL_clips_658 : decode cL_clips 658 = .ok (.iload_n 1, 1) := by decide +kernel
theorem dL_clips_659 : decode cL_clips 659 = .ok (.bipush 10, 2) := by decide +kernel
theorem dL_clips_661 : decode cL_clips 661 = .ok (.if_icmp .ge 9, 3) := by decide +kernel
theorem dL_clips_664 : decode cL_clips 664 = .ok (.iload_n 1, 1) := by decide +kernel
theorem dL_clips_665 : decode cL_clips 665 = .ok (.iconst 1, 1) := by decide +kernel
theorem dL_clips_666 : decode cL_clips 666 = .ok (.iadd, 1) := by decide +kernel
theorem dL_clips_667 : decode cL_clips 667 = .ok (.goto 5, 3) := by decide +kernel
theorem dL_clips_670 : decode cL_clips 670 = .ok (.bipush (-73), 2) := by decide +kernel
theorem dL_clips_672 : decode cL_clips 672 = .ok (.if_icmp .eq 5, 3) := by decide +kernel
theorem dL_clips_675 : decode cL_clips 675 = .ok (.iconst 0, 1) := by decide +kernel
theorem dL_clips_676 : decode cL_clips 676 = .ok (.ireturn, 1) := by decide +kernel
theorem dL_clips_677 : decode cL_clips 677 = .ok (.iinc 1 1, 3) := by decide +kernel
theorem dL_clips_680 : decode cL_clips 680 = .ok (.goto (-48), 3) := by decide +kernel
theorem dL_clips_683 : decode cL_clips 683 = .ok (.bipush 8, 2) := by decide +kernel
theorem dL_clips_685 : decode cL_clips 685 = .ok (.istore_n 1, 1) := by decide +kernel
theorem dL_clips_686 : decode cL_clips 686 = .ok (.iload_n 1, 1) := by decide +kernel
theorem dL_clips_687 : decode cL_clips 687 = .ok (.bipush 25, 2) := by decide +kernel
theorem dL_clips_689 : decode cL_clips 689 = .ok (.if_icmp .ge 39, 3) := by decide +kernel
theorem dL_clips_692 : decode cL_clips 692 = .ok (.aload_n 0, 1) := by decide +kernel
theorem dL_clips_693 : decode cL_clips 693 = .ok (.bipush 12, 2) := by decide +kernel
theorem dL_clips_695 : decode cL_clips 695 = .ok (.iload_n 1, 1) := by decide +kernel
theorem dL_clips_696 : decode cL_clips 696 = .ok (.bipush 6, 2) := by decide +kernel
theorem dL_clips_698 : decode cL_clips 698 = .ok (.irem, 1) := by decide +kernel
theorem dL_clips_699 : decode cL_clips 699 = .ok (.iconst 0, 1) := by decide +kernel
theorem dL_clips_700 : decode cL_clips 700 = .ok (.iconst 0, 1) := by decide +kernel
theorem dL_clips_701 : decode cL_clips 701 = .ok (.iconst 0, 1) := by decide +kernel
theorem dL_clips_702 : decode cL_clips 702 = .ok (.invokestatic 90, 3) := by decide +kernel
theorem dL_clips_705 : decode cL_clips 705 = .ok (.iload_n 1, 1) := by decide +kernel
theorem dL_clips_706 : decode cL_clips 706 = .ok (.bipush 24, 2) := by decide +kernel
theorem dL_clips_708 : decode cL_clips 708 = .ok (.if_icmp .ge 7, 3) := by decide +kernel
theorem dL_clips_711 : decode cL_clips 711 = .ok (.iload_n 1, 1) := by decide +kernel
theorem dL_clips_712 : decode cL_clips 712 = .ok (.goto 5, 3) := by decide +kernel
theorem dL_clips_715 : decode cL_clips 715 = .ok (.bipush (-73), 2) := by decide +kernel
theorem dL_clips_717 : decode cL_clips 717 = .ok (.if_icmp .eq 5, 3) := by decide +kernel
theorem dL_clips_720 : decode cL_clips 720 = .ok (.iconst 0, 1) := by decide +kernel
theorem dL_clips_721 : decode cL_clips 721 = .ok (.ireturn, 1) := by decide +kernel
theorem dL_clips_722 : decode cL_clips 722 = .ok (.iinc 1 1, 3) := by decide +kernel
theorem dL_clips_725 : decode cL_clips 725 = .ok (.goto (-39), 3) := by decide +kernel
theorem dL_clips_728 : decode cL_clips 728 = .ok (.aload_n 0, 1) := by decide +kernel
theorem dL_clips_729 : decode cL_clips 729 = .ok (.bipush 13, 2) := by decide +kernel
theorem dL_clips_731 : decode cL_clips 731 = .ok (.iconst 0, 1) := by decide +kernel
theorem dL_clips_732 : decode cL_clips 732 = .ok (.bipush 8, 2) := by decide +kernel
theorem dL_clips_734 : decode cL_clips 734 = .ok (.iconst (-1), 1) := by decide +kernel
theorem dL_clips_735 : decode cL_clips 735 = .ok (.iconst 0, 1) := by decide +kernel
theorem dL_clips_736 : decode cL_clips 736 = .ok (.invokestatic 90, 3) := by decide +kernel
theorem dL_clips_739 : decode cL_clips 739 = .ok (.bipush (-73), 2) := by decide +kernel
theorem dL_clips_741 : decode cL_clips 741 = .ok (.if_icmp .ne 19, 3) := by decide +kernel
theorem dL_clips_744 : decode cL_clips 744 = .ok (.aload_n 0, 1) := by decide +kernel
theorem dL_clips_745 : decode cL_clips 745 = .ok (.iconst 0, 1) := by decide +kernel
theorem dL_clips_746 : decode cL_clips 746 = .ok (.iconst 0, 1) := by decide +kernel
theorem dL_clips_747 : decode cL_clips 747 = .ok (.iconst 0, 1) := by decide +kernel
theorem dL_clips_748 : decode cL_clips 748 = .ok (.bipush 24, 2) := by decide +kernel
theorem dL_clips_750 : decode cL_clips 750 = .ok (.invokestatic 100, 3) := by decide +kernel
theorem dL_clips_753 : decode cL_clips 753 = .ok (.ifCond .eq 7, 3) := by decide +kernel
theorem dL_clips_756 : decode cL_clips 756 = .ok (.iconst 1, 1) := by decide +kernel
theorem dL_clips_757 : decode cL_clips 757 = .ok (.goto 4, 3) := by decide +kernel
theorem dL_clips_760 : decode cL_clips 760 = .ok (.iconst 0, 1) := by decide +kernel
theorem dL_clips_761 : decode cL_clips 761 = .ok (.ireturn, 1) := by decide +kernel
theorem dL_law_0 : decode cL_law 0 = .ok (.invokestatic 119, 3) := by decide +kernel
theorem dL_law_3 : decode cL_law 3 = .ok (.ifCond .ne 5, 3) := by decide +kernel
theorem dL_law_6 : decode cL_law 6 = .ok (.iconst 0, 1) := by decide +kernel
theorem dL_law_7 : decode cL_law 7 = .ok (.ireturn, 1) := by decide +kernel
theorem dL_law_8 : decode cL_law 8 = .ok (.new 8, 3) := by decide +kernel
theorem dL_law_11 : decode cL_law 11 = .ok (.dup, 1) := by decide +kernel
theorem dL_law_12 : decode cL_law 12 = .ok (.invokespecial 99, 3) := by decide +kernel
theorem dL_law_15 : decode cL_law 15 = .ok (.astore_n 1, 1) := by decide +kernel
theorem dL_law_16 : decode cL_law 16 = .ok (.iconst 0, 1) := by decide +kernel
theorem dL_law_17 : decode cL_law 17 = .ok (.istore_n 2, 1) := by decide +kernel
theorem dL_law_18 : decode cL_law 18 = .ok (.iconst 0, 1) := by decide +kernel
theorem dL_law_19 : decode cL_law 19 = .ok (.istore_n 3, 1) := by decide +kernel
theorem dL_law_20 : decode cL_law 20 = .ok (.iconst 0, 1) := by decide +kernel
theorem dL_law_21 : decode cL_law 21 = .ok (.istore 4, 2) := by decide +kernel
theorem dL_law_23 : decode cL_law 23 = .ok (.iconst 0, 1) := by decide +kernel
theorem dL_law_24 : decode cL_law 24 = .ok (.istore 5, 2) := by decide +kernel
theorem dL_law_26 : decode cL_law 26 = .ok (.iconst 0, 1) := by decide +kernel
theorem dL_law_27 : decode cL_law 27 = .ok (.istore 6, 2) := by decide +kernel
theorem dL_law_29 : decode cL_law 29 = .ok (.iload 6, 2) := by decide +kernel
theorem dL_law_31 : decode cL_law 31 = .ok (.bipush 70, 2) := by decide +kernel
theorem dL_law_33 : decode cL_law 33 = .ok (.if_icmp .ge 649, 3) := by decide +kernel
theorem dL_law_36 : decode cL_law 36 = .ok (.aload_n 0, 1) := by decide +kernel
theorem dL_law_37 : decode cL_law 37 = .ok (.arraylength, 1) := by decide +kernel
theorem dL_law_38 : decode cL_law 38 = .ok (.ifCond .ne 11, 3) := by decide +kernel
theorem dL_law_41 : decode cL_law 41 = .ok (.bipush 91, 2) := by decide +kernel
theorem dL_law_43 : decode cL_law 43 = .ok (.iload 6, 2) := by decide +kernel
theorem dL_law_45 : decode cL_law 45 = .ok (.imul, 1) := by decide +kernel
theorem dL_law_46 : decode cL_law 46 = .ok (.goto 13, 3) := by decide +kernel
theorem dL_law_49 : decode cL_law 49 = .ok (.aload_n 0, 1) := by decide +kernel
theorem dL_law_50 : decode cL_law 50 = .ok (.iload 6, 2) := by decide +kernel
theorem dL_law_52 : decode cL_law 52 = .ok (.aload_n 0, 1) := by decide +kernel
theorem dL_law_53 : decode cL_law 53 = .ok (.arraylength, 1) := by decide +kernel
theorem dL_law_54 : decode cL_law 54 = .ok (.irem, 1) := by decide +kernel
theorem dL_law_55 : decode cL_law 55 = .ok (.iaload, 1) := by decide +kernel
theorem dL_law_56 : decode cL_law 56 = .ok (.bipush 8, 2) := by decide +kernel
theorem dL_law_58 : decode cL_law 58 = .ok (.iushr, 1) := by decide +kernel
theorem dL_law_59 : decode cL_law 59 = .ok (.istore 7, 2) := by decide +kernel
theorem dL_law_61 : decode cL_law 61 = .ok (.iload 7, 2) := by decide +kernel
theorem dL_law_63 : decode cL_law 63 = .ok (.bipush 9, 2) := by decide +kernel
theorem dL_law_65 : decode cL_law 65 = .ok (.irem, 1) := by decide +kernel
theorem dL_law_66 : decode cL_law 66 = .ok (.istore 8, 2) := by decide +kernel
theorem dL_law_68 : decode cL_law 68 = .ok (.iload 7, 2) := by decide +kernel
theorem dL_law_70 : decode cL_law 70 = .ok (.bipush 9, 2) := by decide +kernel
theorem dL_law_72 : decode cL_law 72 = .ok (.idiv, 1) := by decide +kernel
theorem dL_law_73 : decode cL_law 73 = .ok (.istore 9, 2) := by decide +kernel
theorem dL_law_75 : decode cL_law 75 = .ok (.iload 8, 2) := by decide +kernel
theorem dL_law_77 : decode cL_law 77 = .ok (.iconst 2, 1) := by decide +kernel
theorem dL_law_78 : decode cL_law 78 = .ok (.if_icmp .ge 84, 3) := by decide +kernel
theorem dL_law_81 : decode cL_law 81 = .ok (.aload_n 1, 1) := by decide +kernel
theorem dL_law_82 : decode cL_law 82 = .ok (.iload 9, 2) := by decide +kernel
theorem dL_law_84 : decode cL_law 84 = .ok (.bipush 8, 2) := by decide +kernel
theorem dL_law_86 : decode cL_law 86 = .ok (.irem, 1) := by decide +kernel
theorem dL_law_87 : decode cL_law 87 = .ok (.iload 9, 2) := by decide +kernel
theorem dL_law_89 : decode cL_law 89 = .ok (.bipush 8, 2) := by decide +kernel
theorem dL_law_91 : decode cL_law 91 = .ok (.idiv, 1) := by decide +kernel
theorem dL_law_92 : decode cL_law 92 = .ok (.bipush 9, 2) := by decide +kernel
theorem dL_law_94 : decode cL_law 94 = .ok (.irem, 1) := by decide +kernel
theorem dL_law_95 : decode cL_law 95 = .ok (.iload 9, 2) := by decide +kernel
theorem dL_law_97 : decode cL_law 97 = .ok (.bipush 72, 2) := by decide +kernel
theorem dL_law_99 : decode cL_law 99 = .ok (.idiv, 1) := by decide +kernel
theorem dL_law_100 : decode cL_law 100 = .ok (.bipush 9, 2) := by decide +kernel
theorem dL_law_102 : decode cL_law 102 = .ok (.irem, 1) := by decide +kernel
theorem dL_law_103 : decode cL_law 103 = .ok (.iload 9, 2) := by decide +kernel
theorem dL_law_105 : decode cL_law 105 = .ok (.iconst 3, 1) := by decide +kernel
theorem dL_law_106 : decode cL_law 106 = .ok (.idiv, 1) := by decide +kernel
theorem dL_law_107 : decode cL_law 107 = .ok (.iconst 4, 1) := by decide +kernel
theorem dL_law_108 : decode cL_law 108 = .ok (.irem, 1) := by decide +kernel
theorem dL_law_109 : decode cL_law 109 = .ok (.iload 9, 2) := by decide +kernel
theorem dL_law_111 : decode cL_law 111 = .ok (.iconst 5, 1) := by decide +kernel
theorem dL_law_112 : decode cL_law 112 = .ok (.idiv, 1) := by decide +kernel
theorem dL_law_113 : decode cL_law 113 = .ok (.iconst 4, 1) := by decide +kernel
theorem dL_law_114 : decode cL_law 114 = .ok (.irem, 1) := by decide +kernel
theorem dL_law_115 : decode cL_law 115 = .ok (.iload 9, 2) := by decide +kernel
theorem dL_law_117 : decode cL_law 117 = .ok (.bipush 7, 2) := by decide +kernel
theorem dL_law_119 : decode cL_law 119 = .ok (.idiv, 1) := by decide +kernel
theorem dL_law_120 : decode cL_law 120 = .ok (.iconst 3, 1) := by decide +kernel
theorem dL_law_121 : decode cL_law 121 = .ok (.irem, 1) := by decide +kernel
theorem dL_law_122 : decode cL_law 122 = .ok (.iload 9, 2) := by decide +kernel
theorem dL_law_124 : decode cL_law 124 = .ok (.iconst 4, 1) := by decide +kernel
theorem dL_law_125 : decode cL_law 125 = .ok (.irem, 1) := by decide +kernel
theorem dL_law_126 : decode cL_law 126 = .ok (.invokestatic 85, 3) := by decide +kernel
theorem dL_law_129 : decode cL_law 129 = .ok (.istore 10, 2) := by decide +kernel
theorem dL_law_131 : decode cL_law 131 = .ok (.iload 10, 2) := by decide +kernel
theorem dL_law_133 : decode cL_law 133 = .ok (.iload_n 2, 1) := by decide +kernel
theorem dL_law_134 : decode cL_law 134 = .ok (.if_icmp .eq 12, 3) := by decide +kernel
theorem dL_law_137 : decode cL_law 137 = .ok (.iload 10, 2) := by decide +kernel
theorem dL_law_139 : decode cL_law 139 = .ok (.bipush (-73), 2) := by decide +kernel
theorem dL_law_141 : decode cL_law 141 = .ok (.if_icmp .eq 5, 3) := by decide +kernel
theorem dL_law_144 : decode cL_law 144 = .ok (.iconst 0, 1) := by decide +kernel
theorem dL_law_145 : decode cL_law 145 = .ok (.ireturn, 1) := by decide +kernel
theorem dL_law_146 : decode cL_law 146 = .ok (.iload_n 2, 1) := by decide +kernel
theorem dL_law_147 : decode cL_law 147 = .ok (.iload 10, 2) := by decide +kernel
theorem dL_law_149 : decode cL_law 149 = .ok (.ifCond .ge 7, 3) := by decide +kernel
theorem dL_law_152 : decode cL_law 152 = .ok (.iconst 0, 1) := by decide +kernel
theorem dL_law_153 : decode cL_law 153 = .ok (.goto 4, 3) := by decide +kernel
theorem dL_law_156 : decode cL_law 156 = .ok (.iconst 1, 1) := by decide +kernel
theorem dL_law_157 : decode cL_law 157 = .ok (.iadd, 1) := by decide +kernel
theorem dL_law_158 : decode cL_law 158 = .ok (.istore_n 2, 1) := by decide +kernel
theorem dL_law_159 : decode cL_law 159 = .ok (.goto 413, 3) := by decide +kernel
theorem dL_law_162 : decode cL_law 162 = .ok (.iload 8, 2) := by decide +kernel
theorem dL_law_164 : decode cL_law 164 = .ok (.bipush 6, 2) := by decide +kernel
theorem dL_law_166 : decode cL_law 166 = .ok (.if_icmp .ge 118, 3) := by decide +kernel
theorem dL_law_169 : decode cL_law 169 = .ok (.aload_n 1, 1) := by decide +kernel
theorem dL_law_170 : decode cL_law 170 = .ok (.iconst 3, 1) := by decide +kernel
theorem dL_law_171 : decode cL_law 171 = .ok (.iload 9, 2) := by decide +kernel
theorem dL_law_173 : decode cL_law 173 = .ok (.bipush 6, 2) := by decide +kernel
theorem dL_law_175 : decode cL_law 175 = .ok (.irem, 1) := by decide +kernel
theorem dL_law_176 : decode cL_law 176 = .ok (.iload 9, 2) := by decide +kernel
theorem dL_law_178 : decode cL_law 178 = .ok (.bipush 6, 2) := by decide +kernel
theorem dL_law_180 : decode cL_law 180 = .ok (.idiv, 1) := by decide +kernel
theorem dL_law_181 : decode cL_law 181 = .ok (.iload 9, 2) := by decide +kernel
theorem dL_law_183 : decode cL_law 183 = .ok (.bipush 6, 2) := by decide +kernel
theorem dL_law_185 : decode cL_law 185 = .ok (.irem, 1) := by decide +kernel
theorem dL_law_186 : decode cL_law 186 = .ok (.ifCond .eq 12, 3) := by decide +kernel
theorem dL_law_189 : decode cL_law 189 = .ok (.iload 9, 2) := by decide +kernel
theorem dL_law_191 : decode cL_law 191 = .ok (.bipush 6, 2) := by decide +kernel
theorem dL_law_193 : decode cL_law 193 = .ok (.irem, 1) := by decide +kernel
theorem dL_law_194 : decode cL_law 194 = .ok (.iconst 4, 1) := by decide +kernel
theorem dL_law_195 : decode cL_law 195 = .ok (.if_icmp .ne 15, 3) := by decide +kernel
theorem dL_law_198 : decode cL_law 198 = .ok (.iload_n 2, 1) := by decide +kernel
theorem dL_law_199 : decode cL_law 199 = .ok (.ifCond .le 7, 3) := by decide +kernel
theorem dL_law_202 : decode cL_law 202 = .ok (.iload_n 2, 1) := by decide +kernel
theorem dL_law_203 : decode cL_law 203 = .ok (.goto 8, 3) := by decide +kernel
theorem dL_law_206 : decode cL_law 206 = .ok (.iconst 1, 1) := by decide +kernel
theorem dL_law_207 : decode cL_law 207 = .ok (.goto 4, 3) := by decide +kernel
theorem dL_law_210 : decode cL_law 210 = .ok (.iconst 4, 1) := by decide +kernel
theorem dL_law_211 : decode cL_law 211 = .ok (.irem, 1) := by decide +kernel
theorem dL_law_212 : decode cL_law 212 = .ok (.iload 9, 2) := by decide +kernel
theorem dL_law_214 : decode cL_law 214 = .ok (.bipush 12, 2) := by decide +kernel
theorem dL_law_216 : decode cL_law 216 = .ok (.idiv, 1) := by decide +kernel
theorem dL_law_217 : decode cL_law 217 = .ok (.iconst 4, 1) := by decide +kernel
theorem dL_law_218 : decode cL_law 218 = .ok (.irem, 1) := by decide +kernel
theorem dL_law_219 : decode cL_law 219 = .ok (.iload 9, 2) := by decide +kernel
theorem dL_law_221 : decode cL_law 221 = .ok (.bipush 48, 2) := by decide +kernel
theorem dL_law_223 : decode cL_law 223 = .ok (.idiv, 1) := by decide +kernel
theorem dL_law_224 : decode cL_law 224 = .ok (.iconst 4, 1) := by decide +kernel
theorem dL_law_225 : decode cL_law 225 = .ok (.irem, 1) := by decide +kernel
theorem dL_law_226 : decode cL_law 226 = .ok (.invokestatic 90, 3) := by decide +kernel
theorem dL_law_229 : decode cL_law 229 = .ok (.istore 10, 2) := by decide +kernel
theorem dL_law_231 : decode cL_law 231 = .ok (.iload 10, 2) := by decide +kernel
theorem dL_law_233 : decode cL_law 233 = .ok (.ifCond .lt 13, 3) := by decide +kernel
theorem dL_law_236 : decode cL_law 236 = .ok (.iload 10, 2) := by decide +kernel
theorem dL_law_238 : decode cL_law 238 = .ok (.iload_n 3, 1) := by decide +kernel
theorem dL_law_239 : decode cL_law 239 = .ok (.iconst 1, 1) := by decide +kernel
theorem dL_law_240 : decode cL_law 240 = .ok (.iadd, 1) := by decide +kernel
theorem dL_law_241 : decode cL_law 241 = .ok (.if_icmp .eq 5, 3) := by decide +kernel
theorem dL_law_244 : decode cL_law 244 = .ok (.iconst 0, 1) := by decide +kernel
theorem dL_law_245 : decode cL_law 245 = .ok (.ireturn, 1) := by decide +kernel
theorem dL_law_246 : decode cL_law 246 = .ok (.iload_n 3, 1) := by decide +kernel
theorem dL_law_247 : decode cL_law 247 = .ok (.iload 10, 2) := by decide +kernel
theorem dL_law_249 : decode cL_law 249 = .ok (.ifCond .ge 7, 3) := by decide +kernel
theorem dL_law_252 : decode cL_law 252 = .ok (.iconst 0, 1) := by decide +kernel
theorem dL_law_253 : decode cL_law 253 = .ok (.goto 4, 3) := by decide +kernel
theorem dL_law_256 : decode cL_law 256 = .ok (.iconst 1, 1) := by decide +kernel
theorem dL_law_257 : decode cL_law 257 = .ok (.iadd, 1) := by decide +kernel
theorem dL_law_258 : decode cL_law 258 = .ok (.istore_n 3, 1) := by decide +kernel
theorem dL_law_259 : decode cL_law 259 = .ok (.iload_n 3, 1) := by decide +kernel
theorem dL_law_260 : decode cL_law 260 = .ok (.bipush 14, 2) := by decide +kernel
theorem dL_law_262 : decode cL_law 262 = .ok (.if_icmp .ne 14, 3) := by decide +kernel
theorem dL_law_265 : decode cL_law 265 = .ok (.aload_n 1, 1) := by decide +kernel
theorem dL_law_266 : decode cL_law 266 = .ok (.invokevirtual 104, 3) := by decide +kernel
theorem dL_law_269 : decode cL_law 269 = .ok (.bipush 14, 2) := by decide +kernel
theorem dL_law_271 : decode cL_law 271 = .ok (.if_icmp .eq 5, 3) := by decide +kernel
theorem dL_law_274 : decode cL_law 274 = .ok (.iconst 0, 1) := by decide +kernel
theorem dL_law_275 : decode cL_law 275 = .ok (.ireturn, 1) := by decide +kernel
theorem dL_law_276 : decode cL_law 276 = .ok (.iload_n 3, 1) := by decide +kernel
theorem dL_law_277 : decode cL_law 277 = .ok (.bipush 14, 2) := by decide +kernel
theorem dL_law_279 : decode cL_law 279 = .ok (.irem, 1) := by decide +kernel
theorem dL_law_280 : decode cL_law 280 = .ok (.istore_n 3, 1) := by decide +kernel
theorem dL_law_281 : decode cL_law 281 = .ok (.goto 291, 3) := by decide +kernel
theorem dL_law_284 : decode cL_law 284 = .ok (.iload 8, 2) := by decide +kernel
theorem dL_law_286 : decode cL_law 286 = .ok (.bipush 6, 2) := by decide +kernel
theorem dL_law_288 : decode cL_law 288 = .ok (.if_icmp .ne 113, 3) := by decide +kernel
theorem dL_law_291 : decode cL_law 291 = .ok (.aload_n 1, 1) := by decide +kernel
theorem dL_law_292 : decode cL_law 292 = .ok (.bipush 7, 2) := by decide +kernel
theorem dL_law_294 : decode cL_law 294 = .ok (.iload 9, 2) := by decide +kernel
theorem dL_law_296 : decode cL_law 296 = .ok (.iconst 5, 1) := by decide +kernel
theorem dL_law_297 : decode cL_law 297 = .ok (.irem, 1) := by decide +kernel
theorem dL_law_298 : decode cL_law 298 = .ok (.iconst 0, 1) := by decide +kernel
theorem dL_law_299 : decode cL_law 299 = .ok (.iconst 0, 1) := by decide +kernel
theorem dL_law_300 : decode cL_law 300 = .ok (.iconst 0, 1) := by decide +kernel
theorem dL_law_301 : decode cL_law 301 = .ok (.invokestatic 90, 3) := by decide +kernel
theorem dL_law_304 : decode cL_law 304 = .ok (.istore 10, 2) := by decide +kernel
theorem dL_law_306 : decode cL_law 306 = .ok (.iload 10, 2) := by decide +kernel
theorem dL_law_308 : decode cL_law 308 = .ok (.iload 4, 2) := by decide +kernel
theorem dL_law_310 : decode cL_law 310 = .ok (.bipush 6, 2) := by decide +kernel
theorem dL_law_312 : decode cL_law 312 = .ok (.if_icmp .ge 8, 3) := by decide +kernel
theorem dL_law_315 : decode cL_law 315 = .ok (.iload 4, 2) := by decide +kernel
theorem dL_law_317 : decode cL_law 317 = .ok (.goto 5, 3) := by decide +kernel
theorem dL_law_320 : decode cL_law 320 = .ok (.bipush (-73), 2) := by decide +kernel
theorem dL_law_322 : decode cL_law 322 = .ok (.if_icmp .eq 5, 3) := by decide +kernel
theorem dL_law_325 : decode cL_law 325 = .ok (.iconst 0, 1) := by decide +kernel
theorem dL_law_326 : decode cL_law 326 = .ok (.ireturn, 1) := by decide +kernel
theorem dL_law_327 : decode cL_law 327 = .ok (.iload 4, 2) := by decide +kernel
theorem dL_law_329 : decode cL_law 329 = .ok (.iload 4, 2) := by decide +kernel
theorem dL_law_331 : decode cL_law 331 = .ok (.bipush 6, 2) := by decide +kernel
theorem dL_law_333 : decode cL_law 333 = .ok (.if_icmp .ge 7, 3) := by decide +kernel
theorem dL_law_336 : decode cL_law 336 = .ok (.iconst 1, 1) := by decide +kernel
theorem dL_law_337 : decode cL_law 337 = .ok (.goto 4, 3) := by decide +kernel
theorem dL_law_340 : decode cL_law 340 = .ok (.iconst 0, 1) := by decide +kernel
theorem dL_law_341 : decode cL_law 341 = .ok (.iadd, 1) := by decide +kernel
theorem dL_law_342 : decode cL_law 342 = .ok (.istore 4, 2) := by decide +kernel
theorem dL_law_344 : decode cL_law 344 = .ok (.iload_n 2, 1) := by decide +kernel
theorem dL_law_345 : decode cL_law 345 = .ok (.ifCond .le 23, 3) := by decide +kernel
theorem dL_law_348 : decode cL_law 348 = .ok (.aload_n 1, 1) := by decide +kernel
theorem dL_law_349 : decode cL_law 349 = .ok (.bipush 8, 2) := by decide +kernel
theorem dL_law_351 : decode cL_law 351 = .ok (.iload 9, 2) := by decide +kernel
theorem dL_law_353 : decode cL_law 353 = .ok (.iload 4, 2) := by decide +kernel
theorem dL_law_355 : decode cL_law 355 = .ok (.irem, 1) := by decide +kernel
theorem dL_law_356 : decode cL_law 356 = .ok (.iload 9, 2) := by decide +kernel
theorem dL_law_358 : decode cL_law 358 = .ok (.iload_n 2, 1) := by decide +kernel
theorem dL_law_359 : decode cL_law 359 = .ok (.irem, 1) := by decide +kernel
theorem dL_law_360 : decode cL_law 360 = .ok (.iconst 0, 1) := by decide +kernel
theorem dL_law_361 : decode cL_law 361 = .ok (.iconst 0, 1) := by decide +kernel
theorem dL_law_362 : decode cL_law 362 = .ok (.invokestatic 90, 3) := by decide +kernel
theorem dL_law_365 : decode cL_law 365 = .ok (.ifCond .lt 31, 3) := by decide +kernel
theorem dL_law_368 : decode cL_law 368 = .ok (.iload_n 3, 1) := by decide +kernel
theorem dL_law_369 : decode cL_law 369 = .ok (.ifCond .le 29, 3) := by decide +kernel
theorem dL_law_372 : decode cL_law 372 = .ok (.aload_n 1, 1) := by decide +kernel
theorem dL_law_373 : decode cL_law 373 = .ok (.iconst 4, 1) := by decide +kernel
theorem dL_law_374 : decode cL_law 374 = .ok (.iload 9, 2) := by decide +kernel
theorem dL_law_376 : decode cL_law 376 = .ok (.iconst 4, 1) := by decide +kernel
theorem dL_law_377 : decode cL_law 377 = .ok (.irem, 1) := by decide +kernel
theorem dL_law_378 : decode cL_law 378 = .ok (.iload 9, 2) := by decide +kernel
theorem dL_law_380 : decode cL_law 380 = .ok (.iconst 4, 1) := by decide +kernel
theorem dL_law_381 : decode cL_law 381 = .ok (.idiv, 1) := by decide +kernel
theorem dL_law_382 : decode cL_law 382 = .ok (.iload_n 3, 1) := by decide +kernel
theorem dL_law_383 : decode cL_law 383 = .ok (.irem, 1) := by decide +kernel
theorem dL_law_384 : decode cL_law 384 = .ok (.iload_n 3, 1) := by decide +kernel
theorem dL_law_385 : decode cL_law 385 = .ok (.iconst 1, 1) := by decide +kernel
theorem dL_law_386 : decode cL_law 386 = .ok (.isub, 1) := by decide +kernel
theorem dL_law_387 : decode cL_law 387 = .ok (.iconst 0, 1) := by decide +kernel
theorem dL_law_388 : decode cL_law 388 = .ok (.invokestatic 90, 3) := by decide +kernel
theorem dL_law_391 : decode cL_law 391 = .ok (.bipush (-71), 2) := by decide +kernel
theorem dL_law_393 : decode cL_law 393 = .ok (.if_icmp .ne 5, 3) := by decide +kernel
theorem dL_law_396 : decode cL_law 396 = .ok (.iconst 0, 1) := by decide +kernel
theorem dL_law_397 : decode cL_law 397 = .ok (.ireturn, 1) := by decide +kernel
theorem dL_law_398 : decode cL_law 398 = .ok (.goto 174, 3) := by decide +kernel
theorem dL_law_401 : decode cL_law 401 = .ok (.iload 8, 2) := by decide +kernel
theorem dL_law_403 : decode cL_law 403 = .ok (.bipush 7, 2) := by decide +kernel
theorem dL_law_405 : decode cL_law 405 = .ok (.if_icmp .ne 60, 3) := by decide +kernel
theorem dL_law_408 : decode cL_law 408 = .ok (.aload_n 1, 1) := by decide +kernel
theorem dL_law_409 : decode cL_law 409 = .ok (.bipush 12, 2) := by decide +kernel
theorem dL_law_411 : decode cL_law 411 = .ok (.iload 9, 2) := by decide +kernel
theorem dL_law_413 : decode cL_law 413 = .ok (.bipush 6, 2) := by decide +kernel
theorem dL_law_415 : decode cL_law 415 = .ok (.irem, 1) := by decide +kernel
theorem dL_law_416 : decode cL_law 416 = .ok (.iconst 0, 1) := by decide +kernel
theorem dL_law_417 : decode cL_law 417 = .ok (.iconst 0, 1) := by decide +kernel
theorem dL_law_418 : decode cL_law 418 = .ok (.iconst 0, 1) := by decide +kernel
theorem dL_law_419 : decode cL_law 419 = .ok (.invokestatic 90, 3) := by decide +kernel
theorem dL_law_422 : decode cL_law 422 = .ok (.istore 10, 2) := by decide +kernel
theorem dL_law_424 : decode cL_law 424 = .ok (.iload 10, 2) := by decide +kernel
theorem dL_law_426 : decode cL_law 426 = .ok (.iload 5, 2) := by decide +kernel
theorem dL_law_428 : decode cL_law 428 = .ok (.bipush 24, 2) := by decide +kernel
theorem dL_law_430 : decode cL_law 430 = .ok (.if_icmp .ge 8, 3) := by decide +kernel
theorem dL_law_433 : decode cL_law 433 = .ok (.iload 5, 2) := by decide +kernel
theorem dL_law_435 : decode cL_law 435 = .ok (.goto 5, 3) := by decide +kernel
theorem dL_law_438 : decode cL_law 438 = .ok (.bipush (-73), 2) := by decide +kernel
theorem dL_law_440 : decode cL_law 440 = .ok (.if_icmp .eq 5, 3) := by decide +kernel
theorem dL_law_443 : decode cL_law 443 = .ok (.iconst 0, 1) := by decide +kernel
theorem dL_law_444 : decode cL_law 444 = .ok (.ireturn, 1) := by decide +kernel
theorem dL_law_445 : decode cL_law 445 = .ok (.iload 5, 2) := by decide +kernel
theorem dL_law_447 : decode cL_law 447 = .ok (.iload 5, 2) := by decide +kernel
theorem dL_law_449 : decode cL_law 449 = .ok (.bipush 24, 2) := by decide +kernel
theorem dL_law_451 : decode cL_law 451 = .ok (.if_icmp .ge 7, 3) := by decide +kernel
theorem dL_law_454 : decode cL_law 454 = .ok (.iconst 1, 1) := by decide +kernel
theorem dL_law_455 : decode cL_law 455 = .ok (.goto 4, 3) := by decide +kernel
theorem dL_law_458 : decode cL_law 458 = .ok (.iconst 0, 1) := by decide +kernel
theorem dL_law_459 : decode cL_law 459 = .ok (.iadd, 1) := by decide +kernel
theorem dL_law_460 : decode cL_law 460 = .ok (.istore 5, 2) := by decide +kernel
theorem dL_law_462 : decode cL_law 462 = .ok (.goto 110, 3) := by decide +kernel
theorem dL_law_465 : decode cL_law 465 = .ok (.iload 5, 2) := by decide +kernel
theorem dL_law_467 : decode cL_law 467 = .ok (.ifCond .le 105, 3) := by decide +kernel
theorem dL_law_470 : decode cL_law 470 = .ok (.aload_n 1, 1) := by decide +kernel
theorem dL_law_471 : decode cL_law 471 = .ok (.bipush 13, 2) := by decide +kernel
theorem dL_law_473 : decode cL_law 473 = .ok (.iload 9, 2) := by decide +kernel
theorem dL_law_475 : decode cL_law 475 = .ok (.iconst 3, 1) := by decide +kernel
theorem dL_law_476 : decode cL_law 476 = .ok (.irem, 1) := by decide +kernel
theorem dL_law_477 : decode cL_law 477 = .ok (.iload 9, 2) := by decide +kernel
theorem dL_law_479 : decode cL_law 479 = .ok (.iload 5, 2) := by decide +kernel
theorem dL_law_481 : decode cL_law 481 = .ok (.irem, 1) := by decide +kernel
theorem dL_law_482 : decode cL_law 482 = .ok (.iload 9, 2) := by decide +kernel
theorem dL_law_484 : decode cL_law 484 = .ok (.iconst 3, 1) := by decide +kernel
theorem dL_law_485 : decode cL_law 485 = .ok (.idiv, 1) := by decide +kernel
theorem dL_law_486 : decode cL_law 486 = .ok (.iconst 2, 1) := by decide +kernel
theorem dL_law_487 : decode cL_law 487 = .ok (.irem, 1) := by decide +kernel
theorem dL_law_488 : decode cL_law 488 = .ok (.ifCond .ne 7, 3) := by decide +kernel
theorem dL_law_491 : decode cL_law 491 = .ok (.iconst (-1), 1) := by decide +kernel
theorem dL_law_492 : decode cL_law 492 = .ok (.goto 11, 3) := by decide +kernel
theorem dL_law_495 : decode cL_law 495 = .ok (.iload 9, 2) := by decide +kernel
theorem dL_law_497 : decode cL_law 497 = .ok (.bipush 6, 2) := by decide +kernel
theorem dL_law_499 : decode cL_law 499 = .ok (.idiv, 1) := by decide +kernel
theorem dL_law_500 : decode cL_law 500 = .ok (.iload 5, 2) := by decide +kernel
theorem dL_law_502 : decode cL_law 502 = .ok (.irem, 1) := by decide +kernel
theorem dL_law_503 : decode cL_law 503 = .ok (.iconst 0, 1) := by decide +kernel
theorem dL_law_504 : decode cL_law 504 = .ok (.invokestatic 90, 3) := by decide +kernel
theorem dL_law_507 : decode cL_law 507 = .ok (.istore 10, 2) := by decide +kernel
theorem dL_law_509 : decode cL_law 509 = .ok (.iload 10, 2) := by decide +kernel
theorem dL_law_511 : decode cL_law 511 = .ok (.ifCond .lt 21, 3) := by decide +kernel
theorem dL_law_514 : decode cL_law 514 = .ok (.iload 10, 2) := by decide +kernel
theorem dL_law_516 : decode cL_law 516 = .ok (.iload 5, 2) := by decide +kernel
theorem dL_law_518 : decode cL_law 518 = .ok (.if_icmp .ne 12, 3) := by decide +kernel
theorem dL_law_521 : decode cL_law 521 = .ok (.aload_n 1, 1) := by decide +kernel
theorem dL_law_522 : decode cL_law 522 = .ok (.iload 10, 2) := by decide +kernel
theorem dL_law_524 : decode cL_law 524 = .ok (.invokevirtual 63, 3) := by decide +kernel
theorem dL_law_527 : decode cL_law 527 = .ok (.ifCond .ne 5, 3) := by decide +kernel
theorem dL_law_530 : decode cL_law 530 = .ok (.iconst 0, 1) := by decide +kernel
theorem dL_law_531 : decode cL_law 531 = .ok (.ireturn, 1) := by decide +kernel
theorem dL_law_532 : decode cL_law 532 = .ok (.iload 5, 2) := by decide +kernel
theorem dL_law_534 : decode cL_law 534 = .ok (.iload 10, 2) := by decide +kernel
theorem dL_law_536 : decode cL_law 536 = .ok (.ifCond .ge 7, 3) := by decide +kernel
theorem dL_law_539 : decode cL_law 539 = .ok (.iconst 0, 1) := by decide +kernel
theorem dL_law_540 : decode cL_law 540 = .ok (.goto 4, 3) := by decide +kernel
theorem dL_law_543 : decode cL_law 543 = .ok (.iconst 1, 1) := by decide +kernel
theorem dL_law_544 : decode cL_law 544 = .ok (.iadd, 1) := by decide +kernel
theorem dL_law_545 : decode cL_law 545 = .ok (.istore 5, 2) := by decide +kernel
theorem dL_law_547 : decode cL_law 547 = .ok (.iload 9, 2) := by decide +kernel
theorem dL_law_549 : decode cL_law 549 = .ok (.iconst 5, 1) := by decide +kernel
theorem dL_law_550 : decode cL_law 550 = .ok (.irem, 1) := by decide +kernel
theorem dL_law_551 : decode cL_law 551 = .ok (.ifCond .ne 21, 3) := by decide +kernel
theorem dL_law_554 : decode cL_law 554 = .ok (.aload_n 1, 1) := by decide +kernel
theorem dL_law_555 : decode cL_law 555 = .ok (.iload 9, 2) := by decide +kernel
theorem dL_law_557 : decode cL_law 557 = .ok (.iconst 5, 1) := by decide +kernel
theorem dL_law_558 : decode cL_law 558 = .ok (.idiv, 1) := by decide +kernel
theorem dL_law_559 : decode cL_law 559 = .ok (.bipush 6, 2) := by decide +kernel
theorem dL_law_561 : decode cL_law 561 = .ok (.irem, 1) := by decide +kernel
theorem dL_law_562 : decode cL_law 562 = .ok (.invokevirtual 60, 3) := by decide +kernel
theorem dL_law_565 : decode cL_law 565 = .ok (.iload 5, 2) := by decide +kernel
theorem dL_law_567 : decode cL_law 567 = .ok (.if_icmp .le 5, 3) := by decide +kernel
theorem dL_law_570 : decode cL_law 570 = .ok (.iconst 0, 1) := by decide +kernel
theorem dL_law_571 : decode cL_law 571 = .ok (.ireturn, 1) := by decide +kernel
theorem dL_law_572 : decode cL_law 572 = .ok (.iconst 0, 1) := by decide +kernel
theorem dL_law_573 : decode cL_law 573 = .ok (.istore 10, 2) := by decide +kernel
theorem dL_law_575 : decode cL_law 575 = .ok (.iload 10, 2) := by decide +kernel
theorem dL_law_577 : decode cL_law 577 = .ok (.iload_n 3, 1) := by decide +kernel
theorem dL_law_578 : decode cL_law 578 = .ok (.if_icmp .ge 75, 3) := by decide +kernel
theorem dL_law_581 : decode cL_law 581 = .ok (.aload_n 1, 1) := by decide +kernel
theorem dL_law_582 : decode cL_law 582 = .ok (.iload 10, 2) := by decide +kernel
theorem dL_law_584 : decode cL_law 584 = .ok (.bipush 8, 2) := by decide +kernel
theorem dL_law_586 : decode cL_law 586 = .ok (.invokevirtual 41, 3) := by decide +kernel
theorem dL_law_589 : decode cL_law 589 = .ok (.aload_n 1, 1) := by decide +kernel
theorem dL_law_590 : decode cL_law 590 = .ok (.iload 10, 2) := by decide +kernel
theorem dL_law_592 : decode cL_law 592 = .ok (.bipush 7, 2) := by decide +kernel
theorem dL_law_594 : decode cL_law 594 = .ok (.invokevirtual 41, 3) := by decide +kernel
theorem dL_law_597 : decode cL_law 597 = .ok (.if_icmp .le 48, 3) := by decide +kernel
theorem dL_law_600 : decode cL_law 600 = .ok (.aload_n 1, 1) := by decide +kernel
theorem dL_law_601 : decode cL_law 601 = .ok (.iload 10, 2) := by decide +kernel
theorem dL_law_603 : decode cL_law 603 = .ok (.bipush 7, 2) := by decide +kernel
theorem dL_law_605 : decode cL_law 605 = .ok (.invokevirtual 41, 3) := by decide +kernel
theorem dL_law_608 : decode cL_law 608 = .ok (.aload_n 1, 1) := by decide +kernel
theorem dL_law_609 : decode cL_law 609 = .ok (.iload 10, 2) := by decide +kernel
theorem dL_law_611 : decode cL_law 611 = .ok (.bipush 6, 2) := by decide +kernel
theorem dL_law_613 : decode cL_law 613 = .ok (.invokevirtual 41, 3) := by decide +kernel
theorem dL_law_616 : decode cL_law 616 = .ok (.if_icmp .lt 29, 3) := by decide +kernel
theorem dL_law_619 : decode cL_law 619 = .ok (.iload 10, 2) := by decide +kernel
theorem dL_law_621 : decode cL_law 621 = .ok (.ifCond .le 26, 3) := by decide +kernel
theorem dL_law_624 : decode cL_law 624 = .ok (.aload_n 1, 1) := by decide +kernel
theorem dL_law_625 : decode cL_law 625 = .ok (.iload 10, 2) := by decide +kernel
theorem dL_law_627 : decode cL_law 627 = .ok (.bipush 6, 2) := by decide +kernel
theorem dL_law_629 : decode cL_law 629 = .ok (.invokevirtual 41, 3) := by decide +kernel
theorem dL_law_632 : decode cL_law 632 = .ok (.aload_n 1, 1) := by decide +kernel
theorem dL_law_633 : decode cL_law 633 = .ok (.iload 10, 2) := by decide +kernel
theorem dL_law_635 : decode cL_law 635 = .ok (.iconst 1, 1) := by decide +kernel
theorem dL_law_636 : decode cL_law 636 = .ok (.isub, 1) := by decide +kernel
theorem dL_law_637 : decode cL_law 637 = .ok (.bipush 8, 2) := by decide +kernel
theorem dL_law_639 : decode cL_law 639 = .ok (.invokevirtual 41, 3) := by decide +kernel
theorem dL_law_642 : decode cL_law 642 = .ok (.if_icmp .eq 5, 3) := by decide +kernel
theorem dL_law_645 : decode cL_law 645 = .ok (.iconst 0, 1) := by decide +kernel
theorem dL_law_646 : decode cL_law 646 = .ok (.ireturn, 1) := by decide +kernel
theorem dL_law_647 : decode cL_law 647 = .ok (.iinc 10 1, 3) := by decide +kernel
theorem dL_law_650 : decode cL_law 650 = .ok (.goto (-75), 3) := by decide +kernel
theorem dL_law_653 : decode cL_law 653 = .ok (.iload 6, 2) := by decide +kernel
theorem dL_law_655 : decode cL_law 655 = .ok (.bipush 14, 2) := by decide +kernel
theorem dL_law_657 : decode cL_law 657 = .ok (.irem, 1) := by decide +kernel
theorem dL_law_658 : decode cL_law 658 = .ok (.ifCond .ne 18, 3) := by decide +kernel
theorem dL_law_661 : decode cL_law 661 = .ok (.aload_n 1, 1) := by decide +kernel
theorem dL_law_662 : decode cL_law 662 = .ok (.iload_n 2, 1) := by decide +kernel
theorem dL_law_663 : decode cL_law 663 = .ok (.iload_n 3, 1) := by decide +kernel
theorem dL_law_664 : decode cL_law 664 = .ok (.iload 4, 2) := by decide +kernel
theorem dL_law_666 : decode cL_law 666 = .ok (.iload 5, 2) := by decide +kernel
theorem dL_law_668 : decode cL_law 668 = .ok (.invokestatic 100, 3) := by decide +kernel
theorem dL_law_671 : decode cL_law 671 = .ok (.ifCond .ne 5, 3) := by decide +kernel
theorem dL_law_674 : decode cL_law 674 = .ok (.iconst 0, 1) := by decide +kernel
theorem dL_law_675 : decode cL_law 675 = .ok (.ireturn, 1) := by decide +kernel
theorem dL_law_676 : decode cL_law 676 = .ok (.iinc 6 1, 3) := by decide +kernel
theorem dL_law_679 : decode cL_law 679 = .ok (.goto (-650), 3) := by decide +kernel
theorem dL_law_682 : decode cL_law 682 = .ok (.iconst 1, 1) := by decide +kernel
theorem dL_law_683 : decode cL_law 683 = .ok (.ireturn, 1) := by decide +kernel
