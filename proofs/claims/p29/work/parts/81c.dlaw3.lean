theorem dL_known_0 : decode cL_known 0 = .ok (.new 10, 3) := by decide +kernel
theorem dL_known_3 : decode cL_known 3 = .ok (.dup, 1) := by decide +kernel
theorem dL_known_4 : decode cL_known 4 = .ok (.invokespecial 191, 3) := by decide +kernel
theorem dL_known_7 : decode cL_known 7 = .ok (.astore_n 0, 1) := by decide +kernel
theorem dL_known_8 : decode cL_known 8 = .ok (.aload_n 0, 1) := by decide +kernel
theorem dL_known_9 : decode cL_known 9 = .ok (.invokestatic 294, 3) := by decide +kernel
theorem dL_known_12 : decode cL_known 12 = .ok (.ifCond .eq 182, 3) := by decide +kernel
theorem dL_known_15 : decode cL_known 15 = .ok (.aload_n 0, 1) := by decide +kernel
theorem dL_known_16 : decode cL_known 16 = .ok (.iconst 0, 1) := by decide +kernel
theorem dL_known_17 : decode cL_known 17 = .ok (.invokestatic 297, 3) := by decide +kernel
theorem dL_known_20 : decode cL_known 20 = .ok (.ifCond .eq 174, 3) := by decide +kernel
theorem dL_known_23 : decode cL_known 23 = .ok (.aload_n 0, 1) := by decide +kernel
theorem dL_known_24 : decode cL_known 24 = .ok (.invokevirtual 301, 3) := by decide +kernel
theorem dL_known_27 : decode cL_known 27 = .ok (.sipush (-1000), 3) := by decide +kernel
theorem dL_known_30 : decode cL_known 30 = .ok (.if_icmp .ne 164, 3) := by decide +kernel
theorem dL_known_33 : decode cL_known 33 = .ok (.aload_n 0, 1) := by decide +kernel
theorem dL_known_34 : decode cL_known 34 = .ok (.bipush 6, 2) := by decide +kernel
theorem dL_known_36 : decode cL_known 36 = .ok (.invokestatic 92, 3) := by decide +kernel
theorem dL_known_39 : decode cL_known 39 = .ok (.bipush 96, 2) := by decide +kernel
theorem dL_known_41 : decode cL_known 41 = .ok (.if_icmp .ne 153, 3) := by decide +kernel
theorem dL_known_44 : decode cL_known 44 = .ok (.aload_n 0, 1) := by decide +kernel
theorem dL_known_45 : decode cL_known 45 = .ok (.iconst 3, 1) := by decide +kernel
theorem dL_known_46 : decode cL_known 46 = .ok (.invokestatic 174, 3) := by decide +kernel
theorem dL_known_49 : decode cL_known 49 = .ok (.ifCond .ne 145, 3) := by decide +kernel
theorem dL_known_52 : decode cL_known 52 = .ok (.aload_n 0, 1) := by decide +kernel
theorem dL_known_53 : decode cL_known 53 = .ok (.bipush 12, 2) := by decide +kernel
theorem dL_known_55 : decode cL_known 55 = .ok (.invokestatic 92, 3) := by decide +kernel
theorem dL_known_58 : decode cL_known 58 = .ok (.iconst 3, 1) := by decide +kernel
theorem dL_known_59 : decode cL_known 59 = .ok (.if_icmp .ne 135, 3) := by decide +kernel
theorem dL_known_62 : decode cL_known 62 = .ok (.aload_n 0, 1) := by decide +kernel
theorem dL_known_63 : decode cL_known 63 = .ok (.iconst 0, 1) := by decide +kernel
theorem dL_known_64 : decode cL_known 64 = .ok (.iconst 0, 1) := by decide +kernel
theorem dL_known_65 : decode cL_known 65 = .ok (.iconst 1, 1) := by decide +kernel
theorem dL_known_66 : decode cL_known 66 = .ok (.iconst 0, 1) := by decide +kernel
theorem dL_known_67 : decode cL_known 67 = .ok (.bipush 100, 2) := by decide +kernel
theorem dL_known_69 : decode cL_known 69 = .ok (.invokestatic 155, 3) := by decide +kernel
theorem dL_known_72 : decode cL_known 72 = .ok (.iconst 2, 1) := by decide +kernel
theorem dL_known_73 : decode cL_known 73 = .ok (.if_icmp .ne 121, 3) := by decide +kernel
theorem dL_known_76 : decode cL_known 76 = .ok (.aload_n 0, 1) := by decide +kernel
theorem dL_known_77 : decode cL_known 77 = .ok (.iconst 0, 1) := by decide +kernel
theorem dL_known_78 : decode cL_known 78 = .ok (.iconst 0, 1) := by decide +kernel
theorem dL_known_79 : decode cL_known 79 = .ok (.iconst 1, 1) := by decide +kernel
theorem dL_known_80 : decode cL_known 80 = .ok (.iconst 0, 1) := by decide +kernel
theorem dL_known_81 : decode cL_known 81 = .ok (.bipush 100, 2) := by decide +kernel
theorem dL_known_83 : decode cL_known 83 = .ok (.invokestatic 155, 3) := by decide +kernel
theorem dL_known_86 : decode cL_known 86 = .ok (.ifCond .ne 108, 3) := by decide +kernel
theorem dL_known_89 : decode cL_known 89 = .ok (.aload_n 0, 1) := by decide +kernel
theorem dL_known_90 : decode cL_known 90 = .ok (.bipush 7, 2) := by decide +kernel
theorem dL_known_92 : decode cL_known 92 = .ok (.invokestatic 92, 3) := by decide +kernel
theorem dL_known_95 : decode cL_known 95 = .ok (.iconst 2, 1) := by decide +kernel
theorem dL_known_96 : decode cL_known 96 = .ok (.if_icmp .ne 98, 3) := by decide +kernel
theorem dL_known_99 : decode cL_known 99 = .ok (.aload_n 0, 1) := by decide +kernel
theorem dL_known_100 : decode cL_known 100 = .ok (.bipush 10, 2) := by decide +kernel
theorem dL_known_102 : decode cL_known 102 = .ok (.invokestatic 92, 3) := by decide +kernel
theorem dL_known_105 : decode cL_known 105 = .ok (.sipush 200, 3) := by decide +kernel
theorem dL_known_108 : decode cL_known 108 = .ok (.if_icmp .ne 86, 3) := by decide +kernel
theorem dL_known_111 : decode cL_known 111 = .ok (.aload_n 0, 1) := by decide +kernel
theorem dL_known_112 : decode cL_known 112 = .ok (.iconst 0, 1) := by decide +kernel
theorem dL_known_113 : decode cL_known 113 = .ok (.invokestatic 186, 3) := by decide +kernel
theorem dL_known_116 : decode cL_known 116 = .ok (.ifCond .ne 78, 3) := by decide +kernel
theorem dL_known_119 : decode cL_known 119 = .ok (.aload_n 0, 1) := by decide +kernel
theorem dL_known_120 : decode cL_known 120 = .ok (.iconst 1, 1) := by decide +kernel
theorem dL_known_121 : decode cL_known 121 = .ok (.invokestatic 186, 3) := by decide +kernel
theorem dL_known_124 : decode cL_known 124 = .ok (.iconst 1, 1) := by decide +kernel
theorem dL_known_125 : decode cL_known 125 = .ok (.if_icmp .ne 69, 3) := by decide +kernel
theorem dL_known_128 : decode cL_known 128 = .ok (.aload_n 0, 1) := by decide +kernel
theorem dL_known_129 : decode cL_known 129 = .ok (.iconst 2, 1) := by decide +kernel
theorem dL_known_130 : decode cL_known 130 = .ok (.invokestatic 186, 3) := by decide +kernel
theorem dL_known_133 : decode cL_known 133 = .ok (.sipush (-1000), 3) := by decide +kernel
theorem dL_known_136 : decode cL_known 136 = .ok (.if_icmp .ne 58, 3) := by decide +kernel
theorem dL_known_139 : decode cL_known 139 = .ok (.aload_n 0, 1) := by decide +kernel
theorem dL_known_140 : decode cL_known 140 = .ok (.sipush 200, 3) := by decide +kernel
theorem dL_known_143 : decode cL_known 143 = .ok (.iconst 0, 1) := by decide +kernel
theorem dL_known_144 : decode cL_known 144 = .ok (.invokestatic 168, 3) := by decide +kernel
theorem dL_known_147 : decode cL_known 147 = .ok (.ifCond .ne 47, 3) := by decide +kernel
theorem dL_known_150 : decode cL_known 150 = .ok (.aload_n 0, 1) := by decide +kernel
theorem dL_known_151 : decode cL_known 151 = .ok (.iconst 0, 1) := by decide +kernel
theorem dL_known_152 : decode cL_known 152 = .ok (.bipush 6, 2) := by decide +kernel
theorem dL_known_154 : decode cL_known 154 = .ok (.invokestatic 98, 3) := by decide +kernel
theorem dL_known_157 : decode cL_known 157 = .ok (.ifCond .ne 37, 3) := by decide +kernel
theorem dL_known_160 : decode cL_known 160 = .ok (.aload_n 0, 1) := by decide +kernel
theorem dL_known_161 : decode cL_known 161 = .ok (.iconst 0, 1) := by decide +kernel
theorem dL_known_162 : decode cL_known 162 = .ok (.bipush 9, 2) := by decide +kernel
theorem dL_known_164 : decode cL_known 164 = .ok (.invokestatic 98, 3) := by decide +kernel
theorem dL_known_167 : decode cL_known 167 = .ok (.ifCond .ne 27, 3) := by decide +kernel
theorem dL_known_170 : decode cL_known 170 = .ok (.aload_n 0, 1) := by decide +kernel
theorem dL_known_171 : decode cL_known 171 = .ok (.iconst 0, 1) := by decide +kernel
theorem dL_known_172 : decode cL_known 172 = .ok (.iconst 0, 1) := by decide +kernel
theorem dL_known_173 : decode cL_known 173 = .ok (.iconst 0, 1) := by decide +kernel
theorem dL_known_174 : decode cL_known 174 = .ok (.iconst 2, 1) := by decide +kernel
theorem dL_known_175 : decode cL_known 175 = .ok (.iconst 1, 1) := by decide +kernel
theorem dL_known_176 : decode cL_known 176 = .ok (.invokestatic 135, 3) := by decide +kernel
theorem dL_known_179 : decode cL_known 179 = .ok (.iconst 2, 1) := by decide +kernel
theorem dL_known_180 : decode cL_known 180 = .ok (.if_icmp .ne 14, 3) := by decide +kernel
theorem dL_known_183 : decode cL_known 183 = .ok (.aload_n 0, 1) := by decide +kernel
theorem dL_known_184 : decode cL_known 184 = .ok (.iconst 0, 1) := by decide +kernel
theorem dL_known_185 : decode cL_known 185 = .ok (.bipush 6, 2) := by decide +kernel
theorem dL_known_187 : decode cL_known 187 = .ok (.invokestatic 98, 3) := by decide +kernel
theorem dL_known_190 : decode cL_known 190 = .ok (.iconst 1, 1) := by decide +kernel
theorem dL_known_191 : decode cL_known 191 = .ok (.if_icmp .eq 5, 3) := by decide +kernel
theorem dL_known_194 : decode cL_known 194 = .ok (.iconst 0, 1) := by decide +kernel
theorem dL_known_195 : decode cL_known 195 = .ok (.ireturn, 1) := by decide +kernel
theorem dL_known_196 : decode cL_known 196 = .ok (.aload_n 0, 1) := by decide +kernel
theorem dL_known_197 : decode cL_known 197 = .ok (.iconst 0, 1) := by decide +kernel
theorem dL_known_198 : decode cL_known 198 = .ok (.iconst 0, 1) := by decide +kernel
theorem dL_known_199 : decode cL_known 199 = .ok (.iconst 0, 1) := by decide +kernel
theorem dL_known_200 : decode cL_known 200 = .ok (.invokestatic 146, 3) := by decide +kernel
theorem dL_known_203 : decode cL_known 203 = .ok (.iconst 2, 1) := by decide +kernel
theorem dL_known_204 : decode cL_known 204 = .ok (.if_icmp .ne 177, 3) := by decide +kernel
theorem dL_known_207 : decode cL_known 207 = .ok (.aload_n 0, 1) := by decide +kernel
theorem dL_known_208 : decode cL_known 208 = .ok (.iconst 0, 1) := by decide +kernel
theorem dL_known_209 : decode cL_known 209 = .ok (.iconst 1, 1) := by decide +kernel
theorem dL_known_210 : decode cL_known 210 = .ok (.iconst 0, 1) := by decide +kernel
theorem dL_known_211 : decode cL_known 211 = .ok (.invokestatic 146, 3) := by decide +kernel
theorem dL_known_214 : decode cL_known 214 = .ok (.iconst 2, 1) := by decide +kernel
theorem dL_known_215 : decode cL_known 215 = .ok (.if_icmp .ne 166, 3) := by decide +kernel
theorem dL_known_218 : decode cL_known 218 = .ok (.aload_n 0, 1) := by decide +kernel
theorem dL_known_219 : decode cL_known 219 = .ok (.iconst 0, 1) := by decide +kernel
theorem dL_known_220 : decode cL_known 220 = .ok (.iconst 2, 1) := by decide +kernel
theorem dL_known_221 : decode cL_known 221 = .ok (.iconst 0, 1) := by decide +kernel
theorem dL_known_222 : decode cL_known 222 = .ok (.invokestatic 146, 3) := by decide +kernel
theorem dL_known_225 : decode cL_known 225 = .ok (.sipush (-1000), 3) := by decide +kernel
theorem dL_known_228 : decode cL_known 228 = .ok (.if_icmp .ne 153, 3) := by decide +kernel
theorem dL_known_231 : decode cL_known 231 = .ok (.aload_n 0, 1) := by decide +kernel
theorem dL_known_232 : decode cL_known 232 = .ok (.iconst 0, 1) := by decide +kernel
theorem dL_known_233 : decode cL_known 233 = .ok (.iconst 2, 1) := by decide +kernel
theorem dL_known_234 : decode cL_known 234 = .ok (.iconst 0, 1) := by decide +kernel
theorem dL_known_235 : decode cL_known 235 = .ok (.invokestatic 113, 3) := by decide +kernel
theorem dL_known_238 : decode cL_known 238 = .ok (.sipush (-1000), 3) := by decide +kernel
theorem dL_known_241 : decode cL_known 241 = .ok (.if_icmp .ne 140, 3) := by decide +kernel
theorem dL_known_244 : decode cL_known 244 = .ok (.aload_n 0, 1) := by decide +kernel
theorem dL_known_245 : decode cL_known 245 = .ok (.iconst 0, 1) := by decide +kernel
theorem dL_known_246 : decode cL_known 246 = .ok (.iconst 0, 1) := by decide +kernel
theorem dL_known_247 : decode cL_known 247 = .ok (.iconst 0, 1) := by decide +kernel
theorem dL_known_248 : decode cL_known 248 = .ok (.invokestatic 113, 3) := by decide +kernel
theorem dL_known_251 : decode cL_known 251 = .ok (.bipush 100, 2) := by decide +kernel
theorem dL_known_253 : decode cL_known 253 = .ok (.if_icmp .ne 128, 3) := by decide +kernel
theorem dL_known_256 : decode cL_known 256 = .ok (.aload_n 0, 1) := by decide +kernel
theorem dL_known_257 : decode cL_known 257 = .ok (.iconst 0, 1) := by decide +kernel
theorem dL_known_258 : decode cL_known 258 = .ok (.iconst 0, 1) := by decide +kernel
theorem dL_known_259 : decode cL_known 259 = .ok (.iconst 1, 1) := by decide +kernel
theorem dL_known_260 : decode cL_known 260 = .ok (.invokestatic 110, 3) := by decide +kernel
theorem dL_known_263 : decode cL_known 263 = .ok (.bipush 100, 2) := by decide +kernel
theorem dL_known_265 : decode cL_known 265 = .ok (.if_icmp .ne 116, 3) := by decide +kernel
theorem dL_known_268 : decode cL_known 268 = .ok (.aload_n 0, 1) := by decide +kernel
theorem dL_known_269 : decode cL_known 269 = .ok (.bipush 6, 2) := by decide +kernel
theorem dL_known_271 : decode cL_known 271 = .ok (.invokestatic 92, 3) := by decide +kernel
theorem dL_known_274 : decode cL_known 274 = .ok (.bipush 96, 2) := by decide +kernel
theorem dL_known_276 : decode cL_known 276 = .ok (.if_icmp .ne 105, 3) := by decide +kernel
theorem dL_known_279 : decode cL_known 279 = .ok (.aload_n 0, 1) := by decide +kernel
theorem dL_known_280 : decode cL_known 280 = .ok (.bipush 11, 2) := by decide +kernel
theorem dL_known_282 : decode cL_known 282 = .ok (.invokestatic 92, 3) := by decide +kernel
theorem dL_known_285 : decode cL_known 285 = .ok (.sipush 200, 3) := by decide +kernel
theorem dL_known_288 : decode cL_known 288 = .ok (.if_icmp .ne 93, 3) := by decide +kernel
theorem dL_known_291 : decode cL_known 291 = .ok (.aload_n 0, 1) := by decide +kernel
theorem dL_known_292 : decode cL_known 292 = .ok (.iconst 0, 1) := by decide +kernel
theorem dL_known_293 : decode cL_known 293 = .ok (.bipush 8, 2) := by decide +kernel
theorem dL_known_295 : decode cL_known 295 = .ok (.invokestatic 98, 3) := by decide +kernel
theorem dL_known_298 : decode cL_known 298 = .ok (.sipush 200, 3) := by decide +kernel
theorem dL_known_301 : decode cL_known 301 = .ok (.if_icmp .ne 80, 3) := by decide +kernel
theorem dL_known_304 : decode cL_known 304 = .ok (.aload_n 0, 1) := by decide +kernel
theorem dL_known_305 : decode cL_known 305 = .ok (.iconst 0, 1) := by decide +kernel
theorem dL_known_306 : decode cL_known 306 = .ok (.bipush 9, 2) := by decide +kernel
theorem dL_known_308 : decode cL_known 308 = .ok (.invokestatic 98, 3) := by decide +kernel
theorem dL_known_311 : decode cL_known 311 = .ok (.bipush 50, 2) := by decide +kernel
theorem dL_known_313 : decode cL_known 313 = .ok (.if_icmp .ne 68, 3) := by decide +kernel
theorem dL_known_316 : decode cL_known 316 = .ok (.aload_n 0, 1) := by decide +kernel
theorem dL_known_317 : decode cL_known 317 = .ok (.iconst 0, 1) := by decide +kernel
theorem dL_known_318 : decode cL_known 318 = .ok (.bipush 11, 2) := by decide +kernel
theorem dL_known_320 : decode cL_known 320 = .ok (.invokestatic 98, 3) := by decide +kernel
theorem dL_known_323 : decode cL_known 323 = .ok (.iconst 2, 1) := by decide +kernel
theorem dL_known_324 : decode cL_known 324 = .ok (.if_icmp .ne 57, 3) := by decide +kernel
theorem dL_known_327 : decode cL_known 327 = .ok (.aload_n 0, 1) := by decide +kernel
theorem dL_known_328 : decode cL_known 328 = .ok (.bipush 100, 2) := by decide +kernel
theorem dL_known_330 : decode cL_known 330 = .ok (.invokestatic 174, 3) := by decide +kernel
theorem dL_known_333 : decode cL_known 333 = .ok (.bipush 50, 2) := by decide +kernel
theorem dL_known_335 : decode cL_known 335 = .ok (.if_icmp .ne 46, 3) := by decide +kernel
theorem dL_known_338 : decode cL_known 338 = .ok (.aload_n 0, 1) := by decide +kernel
theorem dL_known_339 : decode cL_known 339 = .ok (.iconst 0, 1) := by decide +kernel
theorem dL_known_340 : decode cL_known 340 = .ok (.iconst 4, 1) := by decide +kernel
theorem dL_known_341 : decode cL_known 341 = .ok (.invokestatic 98, 3) := by decide +kernel
theorem dL_known_344 : decode cL_known 344 = .ok (.sipush 190, 3) := by decide +kernel
theorem dL_known_347 : decode cL_known 347 = .ok (.if_icmp .ne 34, 3) := by decide +kernel
theorem dL_known_350 : decode cL_known 350 = .ok (.aload_n 0, 1) := by decide +kernel
theorem dL_known_351 : decode cL_known 351 = .ok (.iconst 0, 1) := by decide +kernel
theorem dL_known_352 : decode cL_known 352 = .ok (.bipush 9, 2) := by decide +kernel
theorem dL_known_354 : decode cL_known 354 = .ok (.invokestatic 98, 3) := by decide +kernel
theorem dL_known_357 : decode cL_known 357 = .ok (.bipush 52, 2) := by decide +kernel
theorem dL_known_359 : decode cL_known 359 = .ok (.if_icmp .ne 22, 3) := by decide +kernel
theorem dL_known_362 : decode cL_known 362 = .ok (.aload_n 0, 1) := by decide +kernel
theorem dL_known_363 : decode cL_known 363 = .ok (.bipush 12, 2) := by decide +kernel
theorem dL_known_365 : decode cL_known 365 = .ok (.invokestatic 92, 3) := by decide +kernel
theorem dL_known_368 : decode cL_known 368 = .ok (.bipush 103, 2) := by decide +kernel
theorem dL_known_370 : decode cL_known 370 = .ok (.if_icmp .ne 11, 3) := by decide +kernel
theorem dL_known_373 : decode cL_known 373 = .ok (.aload_n 0, 1) := by decide +kernel
theorem dL_known_374 : decode cL_known 374 = .ok (.iconst 4, 1) := by decide +kernel
theorem dL_known_375 : decode cL_known 375 = .ok (.invokestatic 297, 3) := by decide +kernel
theorem dL_known_378 : decode cL_known 378 = .ok (.ifCond .ne 5, 3) := by decide +kernel
theorem dL_known_381 : decode cL_known 381 = .ok (.iconst 0, 1) := by decide +kernel
theorem dL_known_382 : decode cL_known 382 = .ok (.ireturn, 1) := by decide +kernel
theorem dL_known_383 : decode cL_known 383 = .ok (.aload_n 0, 1) := by decide +kernel
theorem dL_known_384 : decode cL_known 384 = .ok (.iconst 0, 1) := by decide +kernel
theorem dL_known_385 : decode cL_known 385 = .ok (.iconst 0, 1) := by decide +kernel
theorem dL_known_386 : decode cL_known 386 = .ok (.bipush 80, 2) := by decide +kernel
theorem dL_known_388 : decode cL_known 388 = .ok (.invokestatic 139, 3) := by decide +kernel
theorem dL_known_391 : decode cL_known 391 = .ok (.sipush 200, 3) := by decide +kernel
theorem dL_known_394 : decode cL_known 394 = .ok (.if_icmp .ne 141, 3) := by decide +kernel
theorem dL_known_397 : decode cL_known 397 = .ok (.aload_n 0, 1) := by decide +kernel
theorem dL_known_398 : decode cL_known 398 = .ok (.iconst 0, 1) := by decide +kernel
theorem dL_known_399 : decode cL_known 399 = .ok (.iconst 4, 1) := by decide +kernel
theorem dL_known_400 : decode cL_known 400 = .ok (.invokestatic 98, 3) := by decide +kernel
theorem dL_known_403 : decode cL_known 403 = .ok (.bipush 76, 2) := by decide +kernel
theorem dL_known_405 : decode cL_known 405 = .ok (.if_icmp .ne 130, 3) := by decide +kernel
theorem dL_known_408 : decode cL_known 408 = .ok (.aload_n 0, 1) := by decide +kernel
theorem dL_known_409 : decode cL_known 409 = .ok (.iconst 0, 1) := by decide +kernel
theorem dL_known_410 : decode cL_known 410 = .ok (.iconst 0, 1) := by decide +kernel
theorem dL_known_411 : decode cL_known 411 = .ok (.iconst 0, 1) := by decide +kernel
theorem dL_known_412 : decode cL_known 412 = .ok (.invokestatic 113, 3) := by decide +kernel
theorem dL_known_415 : decode cL_known 415 = .ok (.bipush 76, 2) := by decide +kernel
theorem dL_known_417 : decode cL_known 417 = .ok (.if_icmp .ne 118, 3) := by decide +kernel
theorem dL_known_420 : decode cL_known 420 = .ok (.aload_n 0, 1) := by decide +kernel
theorem dL_known_421 : decode cL_known 421 = .ok (.iconst 0, 1) := by decide +kernel
theorem dL_known_422 : decode cL_known 422 = .ok (.iconst 0, 1) := by decide +kernel
theorem dL_known_423 : decode cL_known 423 = .ok (.iconst 2, 1) := by decide +kernel
theorem dL_known_424 : decode cL_known 424 = .ok (.invokestatic 110, 3) := by decide +kernel
theorem dL_known_427 : decode cL_known 427 = .ok (.iconst 2, 1) := by decide +kernel
theorem dL_known_428 : decode cL_known 428 = .ok (.if_icmp .ne 107, 3) := by decide +kernel
theorem dL_known_431 : decode cL_known 431 = .ok (.aload_n 0, 1) := by decide +kernel
theorem dL_known_432 : decode cL_known 432 = .ok (.bipush 8, 2) := by decide +kernel
theorem dL_known_434 : decode cL_known 434 = .ok (.invokestatic 92, 3) := by decide +kernel
theorem dL_known_437 : decode cL_known 437 = .ok (.iconst 2, 1) := by decide +kernel
theorem dL_known_438 : decode cL_known 438 = .ok (.if_icmp .ne 97, 3) := by decide +kernel
theorem dL_known_441 : decode cL_known 441 = .ok (.aload_n 0, 1) := by decide +kernel
theorem dL_known_442 : decode cL_known 442 = .ok (.iconst 0, 1) := by decide +kernel
theorem dL_known_443 : decode cL_known 443 = .ok (.invokestatic 152, 3) := by decide +kernel
theorem dL_known_446 : decode cL_known 446 = .ok (.bipush 100, 2) := by decide +kernel
theorem dL_known_448 : decode cL_known 448 = .ok (.if_icmp .ne 87, 3) := by decide +kernel
theorem dL_known_451 : decode cL_known 451 = .ok (.aload_n 0, 1) := by decide +kernel
theorem dL_known_452 : decode cL_known 452 = .ok (.iconst 0, 1) := by decide +kernel
theorem dL_known_453 : decode cL_known 453 = .ok (.iconst 1, 1) := by decide +kernel
theorem dL_known_454 : decode cL_known 454 = .ok (.sipush 255, 3) := by decide +kernel
theorem dL_known_457 : decode cL_known 457 = .ok (.invokestatic 139, 3) := by decide +kernel
theorem dL_known_460 : decode cL_known 460 = .ok (.ifCond .ne 75, 3) := by decide +kernel
theorem dL_known_463 : decode cL_known 463 = .ok (.aload_n 0, 1) := by decide +kernel
theorem dL_known_464 : decode cL_known 464 = .ok (.iconst 0, 1) := by decide +kernel
theorem dL_known_465 : decode cL_known 465 = .ok (.iconst 5, 1) := by decide +kernel
theorem dL_known_466 : decode cL_known 466 = .ok (.invokestatic 98, 3) := by decide +kernel
theorem dL_known_469 : decode cL_known 469 = .ok (.bipush 76, 2) := by decide +kernel
theorem dL_known_471 : decode cL_known 471 = .ok (.if_icmp .ne 64, 3) := by decide +kernel
theorem dL_known_474 : decode cL_known 474 = .ok (.aload_n 0, 1) := by decide +kernel
theorem dL_known_475 : decode cL_known 475 = .ok (.iconst 0, 1) := by decide +kernel
theorem dL_known_476 : decode cL_known 476 = .ok (.iconst 0, 1) := by decide +kernel
theorem dL_known_477 : decode cL_known 477 = .ok (.iconst 0, 1) := by decide +kernel
theorem dL_known_478 : decode cL_known 478 = .ok (.iconst 0, 1) := by decide +kernel
theorem dL_known_479 : decode cL_known 479 = .ok (.bipush 10, 2) := by decide +kernel
theorem dL_known_481 : decode cL_known 481 = .ok (.invokestatic 155, 3) := by decide +kernel
theorem dL_known_484 : decode cL_known 484 = .ok (.iconst 1, 1) := by decide +kernel
theorem dL_known_485 : decode cL_known 485 = .ok (.if_icmp .ne 50, 3) := by decide +kernel
theorem dL_known_488 : decode cL_known 488 = .ok (.aload_n 0, 1) := by decide +kernel
theorem dL_known_489 : decode cL_known 489 = .ok (.iconst 0, 1) := by decide +kernel
theorem dL_known_490 : decode cL_known 490 = .ok (.iconst 0, 1) := by decide +kernel
theorem dL_known_491 : decode cL_known 491 = .ok (.iconst 1, 1) := by decide +kernel
theorem dL_known_492 : decode cL_known 492 = .ok (.invokestatic 110, 3) := by decide +kernel
theorem dL_known_495 : decode cL_known 495 = .ok (.bipush 76, 2) := by decide +kernel
theorem dL_known_497 : decode cL_known 497 = .ok (.if_icmp .ne 38, 3) := by decide +kernel
theorem dL_known_500 : decode cL_known 500 = .ok (.aload_n 0, 1) := by decide +kernel
theorem dL_known_501 : decode cL_known 501 = .ok (.iconst 0, 1) := by decide +kernel
theorem dL_known_502 : decode cL_known 502 = .ok (.iconst 0, 1) := by decide +kernel
theorem dL_known_503 : decode cL_known 503 = .ok (.iconst 2, 1) := by decide +kernel
theorem dL_known_504 : decode cL_known 504 = .ok (.invokestatic 110, 3) := by decide +kernel
theorem dL_known_507 : decode cL_known 507 = .ok (.iconst 3, 1) := by decide +kernel
theorem dL_known_508 : decode cL_known 508 = .ok (.if_icmp .ne 27, 3) := by decide +kernel
theorem dL_known_511 : decode cL_known 511 = .ok (.aload_n 0, 1) := by decide +kernel
theorem dL_known_512 : decode cL_known 512 = .ok (.iconst 0, 1) := by decide +kernel
theorem dL_known_513 : decode cL_known 513 = .ok (.iconst 0, 1) := by decide +kernel
theorem dL_known_514 : decode cL_known 514 = .ok (.iconst 4, 1) := by decide +kernel
theorem dL_known_515 : decode cL_known 515 = .ok (.invokestatic 110, 3) := by decide +kernel
theorem dL_known_518 : decode cL_known 518 = .ok (.bipush 76, 2) := by decide +kernel
theorem dL_known_520 : decode cL_known 520 = .ok (.if_icmp .ne 15, 3) := by decide +kernel
theorem dL_known_523 : decode cL_known 523 = .ok (.aload_n 0, 1) := by decide +kernel
theorem dL_known_524 : decode cL_known 524 = .ok (.iconst 0, 1) := by decide +kernel
theorem dL_known_525 : decode cL_known 525 = .ok (.iconst 0, 1) := by decide +kernel
theorem dL_known_526 : decode cL_known 526 = .ok (.iconst 5, 1) := by decide +kernel
theorem dL_known_527 : decode cL_known 527 = .ok (.invokestatic 110, 3) := by decide +kernel
theorem dL_known_530 : decode cL_known 530 = .ok (.bipush 76, 2) := by decide +kernel
theorem dL_known_532 : decode cL_known 532 = .ok (.if_icmp .eq 5, 3) := by decide +kernel
theorem dL_known_535 : decode cL_known 535 = .ok (.iconst 0, 1) := by decide +kernel
theorem dL_known_536 : decode cL_known 536 = .ok (.ireturn, 1) := by decide +kernel
theorem dL_known_537 : decode cL_known 537 = .ok (.aload_n 0, 1) := by decide +kernel
theorem dL_known_538 : decode cL_known 538 = .ok (.bipush 100, 2) := by decide +kernel
theorem dL_known_540 : decode cL_known 540 = .ok (.iconst 0, 1) := by decide +kernel
theorem dL_known_541 : decode cL_known 541 = .ok (.invokestatic 168, 3) := by decide +kernel
theorem dL_known_544 : decode cL_known 544 = .ok (.iconst 1, 1) := by decide +kernel
theorem dL_known_545 : decode cL_known 545 = .ok (.if_icmp .ne 209, 3) := by decide +kernel
theorem dL_known_548 : decode cL_known 548 = .ok (.aload_n 0, 1) := by decide +kernel
theorem dL_known_549 : decode cL_known 549 = .ok (.iconst 1, 1) := by decide +kernel
theorem dL_known_550 : decode cL_known 550 = .ok (.iconst 0, 1) := by decide +kernel
theorem dL_known_551 : decode cL_known 551 = .ok (.iconst 0, 1) := by decide +kernel
theorem dL_known_552 : decode cL_known 552 = .ok (.iconst 1, 1) := by decide +kernel
theorem dL_known_553 : decode cL_known 553 = .ok (.iconst 1, 1) := by decide +kernel
theorem dL_known_554 : decode cL_known 554 = .ok (.invokestatic 135, 3) := by decide +kernel
theorem dL_known_557 : decode cL_known 557 = .ok (.iconst 1, 1) := by decide +kernel
theorem dL_known_558 : decode cL_known 558 = .ok (.if_icmp .ne 196, 3) := by decide +kernel
theorem dL_known_561 : decode cL_known 561 = .ok (.aload_n 0, 1) := by decide +kernel
theorem dL_known_562 : decode cL_known 562 = .ok (.iconst 1, 1) := by decide +kernel
theorem dL_known_563 : decode cL_known 563 = .ok (.iconst 0, 1) := by decide +kernel
theorem dL_known_564 : decode cL_known 564 = .ok (.iconst 0, 1) := by decide +kernel
theorem dL_known_565 : decode cL_known 565 = .ok (.invokestatic 146, 3) := by decide +kernel
theorem dL_known_568 : decode cL_known 568 = .ok (.iconst 2, 1) := by decide +kernel
theorem dL_known_569 : decode cL_known 569 = .ok (.if_icmp .ne 185, 3) := by decide +kernel
theorem dL_known_572 : decode cL_known 572 = .ok (.aload_n 0, 1) := by decide +kernel
theorem dL_known_573 : decode cL_known 573 = .ok (.iconst 0, 1) := by decide +kernel
theorem dL_known_574 : decode cL_known 574 = .ok (.iconst 1, 1) := by decide +kernel
theorem dL_known_575 : decode cL_known 575 = .ok (.iconst 0, 1) := by decide +kernel
theorem dL_known_576 : decode cL_known 576 = .ok (.invokestatic 139, 3) := by decide +kernel
theorem dL_known_579 : decode cL_known 579 = .ok (.sipush 255, 3) := by decide +kernel
theorem dL_known_582 : decode cL_known 582 = .ok (.if_icmp .ne 172, 3) := by decide +kernel
theorem dL_known_585 : decode cL_known 585 = .ok (.aload_n 0, 1) := by decide +kernel
theorem dL_known_586 : decode cL_known 586 = .ok (.iconst 0, 1) := by decide +kernel
theorem dL_known_587 : decode cL_known 587 = .ok (.iconst 0, 1) := by decide +kernel
theorem dL_known_588 : decode cL_known 588 = .ok (.sipush 200, 3) := by decide +kernel
theorem dL_known_591 : decode cL_known 591 = .ok (.invokestatic 139, 3) := by decide +kernel
theorem dL_known_594 : decode cL_known 594 = .ok (.bipush 80, 2) := by decide +kernel
theorem dL_known_596 : decode cL_known 596 = .ok (.if_icmp .ne 158, 3) := by decide +kernel
theorem dL_known_599 : decode cL_known 599 = .ok (.aload_n 0, 1) := by decide +kernel
theorem dL_known_600 : decode cL_known 600 = .ok (.iconst 0, 1) := by decide +kernel
theorem dL_known_601 : decode cL_known 601 = .ok (.iconst 2, 1) := by decide +kernel
theorem dL_known_602 : decode cL_known 602 = .ok (.iconst 0, 1) := by decide +kernel
theorem dL_known_603 : decode cL_known 603 = .ok (.invokestatic 139, 3) := by decide +kernel
theorem dL_known_606 : decode cL_known 606 = .ok (.bipush 50, 2) := by decide +kernel
theorem dL_known_608 : decode cL_known 608 = .ok (.if_icmp .ne 146, 3) := by decide +kernel
theorem dL_known_611 : decode cL_known 611 = .ok (.aload_n 0, 1) := by decide +kernel
theorem dL_known_612 : decode cL_known 612 = .ok (.iconst 0, 1) := by decide +kernel
theorem dL_known_613 : decode cL_known 613 = .ok (.iconst 0, 1) := by decide +kernel
theorem dL_known_614 : decode cL_known 614 = .ok (.iconst 0, 1) := by decide +kernel
theorem dL_known_615 : decode cL_known 615 = .ok (.iconst 0, 1) := by decide +kernel
theorem dL_known_616 : decode cL_known 616 = .ok (.bipush 101, 2) := by decide +kernel
theorem dL_known_618 : decode cL_known 618 = .ok (.invokestatic 155, 3) := by decide +kernel
theorem dL_known_621 : decode cL_known 621 = .ok (.iconst 1, 1) := by decide +kernel
theorem dL_known_622 : decode cL_known 622 = .ok (.if_icmp .ne 132, 3) := by decide +kernel
theorem dL_known_625 : decode cL_known 625 = .ok (.aload_n 0, 1) := by decide +kernel
theorem dL_known_626 : decode cL_known 626 = .ok (.iconst 0, 1) := by decide +kernel
theorem dL_known_627 : decode cL_known 627 = .ok (.iconst 0, 1) := by decide +kernel
theorem dL_known_628 : decode cL_known 628 = .ok (.iconst 0, 1) := by decide +kernel
theorem dL_known_629 : decode cL_known 629 = .ok (.invokestatic 113, 3) := by decide +kernel
theorem dL_known_632 : decode cL_known 632 = .ok (.bipush 51, 2) := by decide +kernel
theorem dL_known_634 : decode cL_known 634 = .ok (.if_icmp .ne 120, 3) := by decide +kernel
theorem dL_known_637 : decode cL_known 637 = .ok (.aload_n 0, 1) := by decide +kernel
theorem dL_known_638 : decode cL_known 638 = .ok (.iconst 1, 1) := by decide +kernel
theorem dL_known_639 : decode cL_known 639 = .ok (.iconst 0, 1) := by decide +kernel
theorem dL_known_640 : decode cL_known 640 = .ok (.iconst 0, 1) := by decide +kernel
theorem dL_known_641 : decode cL_known 641 = .ok (.invokestatic 113, 3) := by decide +kernel
theorem dL_known_644 : decode cL_known 644 = .ok (.bipush 50, 2) := by decide +kernel
theorem dL_known_646 : decode cL_known 646 = .ok (.if_icmp .ne 108, 3) := by decide +kernel
theorem dL_known_649 : decode cL_known 649 = .ok (.aload_n 0, 1) := by decide +kernel
theorem dL_known_650 : decode cL_known 650 = .ok (.iconst 1, 1) := by decide +kernel
theorem dL_known_651 : decode cL_known 651 = .ok (.bipush 9, 2) := by decide +kernel
theorem dL_known_653 : decode cL_known 653 = .ok (.invokestatic 98, 3) := by decide +kernel
theorem dL_known_656 : decode cL_known 656 = .ok (.bipush 50, 2) := by decide +kernel
theorem dL_known_658 : decode cL_known 658 = .ok (.if_icmp .ne 96, 3) := by decide +kernel
theorem dL_known_661 : decode cL_known 661 = .ok (.aload_n 0, 1) := by decide +kernel
theorem dL_known_662 : decode cL_known 662 = .ok (.iconst 0, 1) := by decide +kernel
theorem dL_known_663 : decode cL_known 663 = .ok (.bipush 11, 2) := by decide +kernel
theorem dL_known_665 : decode cL_known 665 = .ok (.invokestatic 98, 3) := by decide +kernel
theorem dL_known_668 : decode cL_known 668 = .ok (.iconst 1, 1) := by decide +kernel
theorem dL_known_669 : decode cL_known 669 = .ok (.if_icmp .ne 85, 3) := by decide +kernel
theorem dL_known_672 : decode cL_known 672 = .ok (.aload_n 0, 1) := by decide +kernel
theorem dL_known_673 : decode cL_known 673 = .ok (.bipush 13, 2) := by decide +kernel
theorem dL_known_675 : decode cL_known 675 = .ok (.invokestatic 92, 3) := by decide +kernel
theorem dL_known_678 : decode cL_known 678 = .ok (.iconst 1, 1) := by decide +kernel
theorem dL_known_679 : decode cL_known 679 = .ok (.if_icmp .ne 75, 3) := by decide +kernel
theorem dL_known_682 : decode cL_known 682 = .ok (.aload_n 0, 1) := by decide +kernel
theorem dL_known_683 : decode cL_known 683 = .ok (.iconst 0, 1) := by decide +kernel
theorem dL_known_684 : decode cL_known 684 = .ok (.iconst 0, 1) := by decide +kernel
theorem dL_known_685 : decode cL_known 685 = .ok (.iconst 3, 1) := by decide +kernel
theorem dL_known_686 : decode cL_known 686 = .ok (.invokestatic 110, 3) := by decide +kernel
theorem dL_known_689 : decode cL_known 689 = .ok (.iconst 3, 1) := by decide +kernel
theorem dL_known_690 : decode cL_known 690 = .ok (.if_icmp .ne 64, 3) := by decide +kernel
theorem dL_known_693 : decode cL_known 693 = .ok (.aload_n 0, 1) := by decide +kernel
theorem dL_known_694 : decode cL_known 694 = .ok (.iconst 1, 1) := by decide +kernel
theorem dL_known_695 : decode cL_known 695 = .ok (.iconst 0, 1) := by decide +kernel
theorem dL_known_696 : decode cL_known 696 = .ok (.bipush 30, 2) := by decide +kernel
theorem dL_known_698 : decode cL_known 698 = .ok (.invokestatic 139, 3) := by decide +kernel
theorem dL_known_701 : decode cL_known 701 = .ok (.bipush 100, 2) := by decide +kernel
theorem dL_known_703 : decode cL_known 703 = .ok (.if_icmp .ne 51, 3) := by decide +kernel
theorem dL_known_706 : decode cL_known 706 = .ok (.aload_n 0, 1) := by decide +kernel
theorem dL_known_707 : decode cL_known 707 = .ok (.iconst 0, 1) := by decide +kernel
theorem dL_known_708 : decode cL_known 708 = .ok (.iconst 0, 1) := by decide +kernel
theorem dL_known_709 : decode cL_known 709 = .ok (.iconst 0, 1) := by decide +kernel
theorem dL_known_710 : decode cL_known 710 = .ok (.invokestatic 113, 3) := by decide +kernel
theorem dL_known_713 : decode cL_known 713 = .ok (.bipush 71, 2) := by decide +kernel
theorem dL_known_715 : decode cL_known 715 = .ok (.if_icmp .ne 39, 3) := by decide +kernel
theorem dL_known_718 : decode cL_known 718 = .ok (.aload_n 0, 1) := by decide +kernel
theorem dL_known_719 : decode cL_known 719 = .ok (.iconst 1, 1) := by decide +kernel
theorem dL_known_720 : decode cL_known 720 = .ok (.iconst 0, 1) := by decide +kernel
theorem dL_known_721 : decode cL_known 721 = .ok (.iconst 0, 1) := by decide +kernel
theorem dL_known_722 : decode cL_known 722 = .ok (.invokestatic 113, 3) := by decide +kernel
theorem dL_known_725 : decode cL_known 725 = .ok (.bipush 30, 2) := by decide +kernel
theorem dL_known_727 : decode cL_known 727 = .ok (.if_icmp .ne 27, 3) := by decide +kernel
theorem dL_known_730 : decode cL_known 730 = .ok (.aload_n 0, 1) := by decide +kernel
theorem dL_known_731 : decode cL_known 731 = .ok (.iconst 0, 1) := by decide +kernel
theorem dL_known_732 : decode cL_known 732 = .ok (.invokestatic 149, 3) := by decide +kernel
theorem dL_known_735 : decode cL_known 735 = .ok (.iconst 2, 1) := by decide +kernel
theorem dL_known_736 : decode cL_known 736 = .ok (.if_icmp .ne 18, 3) := by decide +kernel
theorem dL_known_739 : decode cL_known 739 = .ok (.aload_n 0, 1) := by decide +kernel
theorem dL_known_740 : decode cL_known 740 = .ok (.iconst 1, 1) := by decide +kernel
theorem dL_known_741 : decode cL_known 741 = .ok (.invokestatic 149, 3) := by decide +kernel
theorem dL_known_744 : decode cL_known 744 = .ok (.ifCond .ne 10, 3) := by decide +kernel
theorem dL_known_747 : decode cL_known 747 = .ok (.aload_n 0, 1) := by decide +kernel
theorem dL_known_748 : decode cL_known 748 = .ok (.invokevirtual 301, 3) := by decide +kernel
theorem dL_known_751 : decode cL_known 751 = .ok (.ifCond .eq 5, 3) := by decide +kernel
theorem dL_known_754 : decode cL_known 754 = .ok (.iconst 0, 1) := by decide +kernel
theorem dL_known_755 : decode cL_known 755 = .ok (.ireturn, 1) := by decide +kernel
theorem dL_known_756 : decode cL_known 756 = .ok (.aload_n 0, 1) := by decide +kernel
theorem dL_known_757 : decode cL_known 757 = .ok (.iconst 1, 1) := by decide +kernel
theorem dL_known_758 : decode cL_known 758 = .ok (.iconst 1, 1) := by decide +kernel
theorem dL_known_759 : decode cL_known 759 = .ok (.bipush 25, 2) := by decide +kernel
theorem dL_known_761 : decode cL_known 761 = .ok (.invokestatic 139, 3) := by decide +kernel
theorem dL_known_764 : decode cL_known 764 = .ok (.ifCond .ne 202, 3) := by decide +kernel
theorem dL_known_767 : decode cL_known 767 = .ok (.aload_n 0, 1) := by decide +kernel
theorem dL_known_768 : decode cL_known 768 = .ok (.iconst 0, 1) := by decide +kernel
theorem dL_known_769 : decode cL_known 769 = .ok (.iconst 1, 1) := by decide +kernel
theorem dL_known_770 : decode cL_known 770 = .ok (.bipush 90, 2) := by decide +kernel
theorem dL_known_772 : decode cL_known 772 = .ok (.invokestatic 139, 3) := by decide +kernel
theorem dL_known_775 : decode cL_known 775 = .ok (.ifCond .ne 191, 3) := by decide +kernel
theorem dL_known_778 : decode cL_known 778 = .ok (.aload_n 0, 1) := by decide +kernel
theorem dL_known_779 : decode cL_known 779 = .ok (.iconst 0, 1) := by decide +kernel
theorem dL_known_780 : decode cL_known 780 = .ok (.iconst 0, 1) := by decide +kernel
theorem dL_known_781 : decode cL_known 781 = .ok (.iconst 1, 1) := by decide +kernel
theorem dL_known_782 : decode cL_known 782 = .ok (.invokestatic 110, 3) := by decide +kernel
theorem dL_known_785 : decode cL_known 785 = .ok (.bipush 115, 2) := by decide +kernel
theorem dL_known_787 : decode cL_known 787 = .ok (.if_icmp .ne 179, 3) := by decide +kernel
theorem dL_known_790 : decode cL_known 790 = .ok (.aload_n 0, 1) := by decide +kernel
theorem dL_known_791 : decode cL_known 791 = .ok (.iconst 0, 1) := by decide +kernel
theorem dL_known_792 : decode cL_known 792 = .ok (.iconst 0, 1) := by decide +kernel
theorem dL_known_793 : decode cL_known 793 = .ok (.iconst 0, 1) := by decide +kernel
theorem dL_known_794 : decode cL_known 794 = .ok (.invokestatic 113, 3) := by decide +kernel
theorem dL_known_797 : decode cL_known 797 = .ok (.bipush 90, 2) := by decide +kernel
theorem dL_known_799 : decode cL_known 799 = .ok (.if_icmp .ne 167, 3) := by decide +kernel
theorem dL_known_802 : decode cL_known 802 = .ok (.aload_n 0, 1) := by decide +kernel
theorem dL_known_803 : decode cL_known 803 = .ok (.iconst 1, 1) := by decide +kernel
theorem dL_known_804 : decode cL_known 804 = .ok (.iconst 0, 1) := by decide +kernel
theorem dL_known_805 : decode cL_known 805 = .ok (.iconst 0, 1) := by decide +kernel
theorem dL_known_806 : decode cL_known 806 = .ok (.invokestatic 113, 3) := by decide +kernel
theorem dL_known_809 : decode cL_known 809 = .ok (.bipush 25, 2) := by decide +kernel
theorem dL_known_811 : decode cL_known 811 = .ok (.if_icmp .ne 155, 3) := by decide +kernel
theorem dL_known_814 : decode cL_known 814 = .ok (.aload_n 0, 1) := by decide +kernel
theorem dL_known_815 : decode cL_known 815 = .ok (.iconst 0, 1) := by decide +kernel
theorem dL_known_816 : decode cL_known 816 = .ok (.iconst 0, 1) := by decide +kernel
theorem dL_known_817 : decode cL_known 817 = .ok (.iconst 2, 1) := by decide +kernel
theorem dL_known_818 : decode cL_known 818 = .ok (.invokestatic 110, 3) := by decide +kernel
theorem dL_known_821 : decode cL_known 821 = .ok (.iconst 3, 1) := by decide +kernel
theorem dL_known_822 : decode cL_known 822 = .ok (.if_icmp .ne 144, 3) := by decide +kernel
theorem dL_known_825 : decode cL_known 825 = .ok (.aload_n 0, 1) := by decide +kernel
theorem dL_known_826 : decode cL_known 826 = .ok (.iconst 0, 1) := by decide +kernel
theorem dL_known_827 : decode cL_known 827 = .ok (.iconst 0, 1) := by decide +kernel
theorem dL_known_828 : decode cL_known 828 = .ok (.invokestatic 177, 3) := by decide +kernel
theorem dL_known_831 : decode cL_known 831 = .ok (.iconst 1, 1) := by decide +kernel
theorem dL_known_832 : decode cL_known 832 = .ok (.if_icmp .ne 134, 3) := by decide +kernel
theorem dL_known_835 : decode cL_known 835 = .ok (.aload_n 0, 1) := by decide +kernel
theorem dL_known_836 : decode cL_known 836 = .ok (.iconst (-1), 1) := by decide +kernel
theorem dL_known_837 : decode cL_known 837 = .ok (.iconst 0, 1) := by decide +kernel
theorem dL_known_838 : decode cL_known 838 = .ok (.invokestatic 177, 3) := by decide +kernel
theorem dL_known_841 : decode cL_known 841 = .ok (.iconst 3, 1) := by decide +kernel
theorem dL_known_842 : decode cL_known 842 = .ok (.if_icmp .ne 124, 3) := by decide +kernel
theorem dL_known_845 : decode cL_known 845 = .ok (.aload_n 0, 1) := by decide +kernel
theorem dL_known_846 : decode cL_known 846 = .ok (.iconst 0, 1) := by decide +kernel
theorem dL_known_847 : decode cL_known 847 = .ok (.invokestatic 180, 3) := by decide +kernel
theorem dL_known_850 : decode cL_known 850 = .ok (.sipush 1010, 3) := by decide +kernel
theorem dL_known_853 : decode cL_known 853 = .ok (.if_icmp .ne 113, 3) := by decide +kernel
theorem dL_known_856 : decode cL_known 856 = .ok (.aload_n 0, 1) := by decide +kernel
theorem dL_known_857 : decode cL_known 857 = .ok (.iconst 1, 1) := by decide +kernel
theorem dL_known_858 : decode cL_known 858 = .ok (.iconst 0, 1) := by decide +kernel
theorem dL_known_859 : decode cL_known 859 = .ok (.invokestatic 171, 3) := by decide +kernel
theorem dL_known_862 : decode cL_known 862 = .ok (.iconst 1, 1) := by decide +kernel
theorem dL_known_863 : decode cL_known 863 = .ok (.if_icmp .ne 103, 3) := by decide +kernel
theorem dL_known_866 : decode cL_known 866 = .ok (.aload_n 0, 1) := by decide +kernel
theorem dL_known_867 : decode cL_known 867 = .ok (.iconst 1, 1) := by decide +kernel
theorem dL_known_868 : decode cL_known 868 = .ok (.iconst 0, 1) := by decide +kernel
theorem dL_known_869 : decode cL_known 869 = .ok (.iconst 2, 1) := by decide +kernel
theorem dL_known_870 : decode cL_known 870 = .ok (.invokestatic 110, 3) := by decide +kernel
theorem dL_known_873 : decode cL_known 873 = .ok (.iconst 1, 1) := by decide +kernel
theorem dL_known_874 : decode cL_known 874 = .ok (.if_icmp .ne 92, 3) := by decide +kernel
theorem dL_known_877 : decode cL_known 877 = .ok (.aload_n 0, 1) := by decide +kernel
theorem dL_known_878 : decode cL_known 878 = .ok (.iconst 0, 1) := by decide +kernel
theorem dL_known_879 : decode cL_known 879 = .ok (.iconst 0, 1) := by decide +kernel
theorem dL_known_880 : decode cL_known 880 = .ok (.iconst 3, 1) := by decide +kernel
theorem dL_known_881 : decode cL_known 881 = .ok (.invokestatic 110, 3) := by decide +kernel
theorem dL_known_884 : decode cL_known 884 = .ok (.iconst 1, 1) := by decide +kernel
theorem dL_known_885 : decode cL_known 885 = .ok (.if_icmp .ne 81, 3) := by decide +kernel
theorem dL_known_888 : decode cL_known 888 = .ok (.aload_n 0, 1) := by decide +kernel
theorem dL_known_889 : decode cL_known 889 = .ok (.iconst 0, 1) := by decide +kernel
theorem dL_known_890 : decode cL_known 890 = .ok (.iconst 0, 1) := by decide +kernel
theorem dL_known_891 : decode cL_known 891 = .ok (.iconst 1, 1) := by decide +kernel
theorem dL_known_892 : decode cL_known 892 = .ok (.invokestatic 110, 3) := by decide +kernel
theorem dL_known_895 : decode cL_known 895 = .ok (.bipush 101, 2) := by decide +kernel
theorem dL_known_897 : decode cL_known 897 = .ok (.if_icmp .ne 69, 3) := by decide +kernel
theorem dL_known_900 : decode cL_known 900 = .ok (.aload_n 0, 1) := by decide +kernel
theorem dL_known_901 : decode cL_known 901 = .ok (.iconst 0, 1) := by decide +kernel
theorem dL_known_902 : decode cL_known 902 = .ok (.iconst 0, 1) := by decide +kernel
theorem dL_known_903 : decode cL_known 903 = .ok (.invokestatic 142, 3) := by decide +kernel
theorem dL_known_906 : decode cL_known 906 = .ok (.iconst 1, 1) := by decide +kernel
theorem dL_known_907 : decode cL_known 907 = .ok (.if_icmp .ne 59, 3) := by decide +kernel
theorem dL_known_910 : decode cL_known 910 = .ok (.aload_n 0, 1) := by decide +kernel
theorem dL_known_911 : decode cL_known 911 = .ok (.iconst 0, 1) := by decide +kernel
theorem dL_known_912 : decode cL_known 912 = .ok (.iconst 0, 1) := by decide +kernel
theorem dL_known_913 : decode cL_known 913 = .ok (.iconst 3, 1) := by decide +kernel
theorem dL_known_914 : decode cL_known 914 = .ok (.invokestatic 110, 3) := by decide +kernel
theorem dL_known_917 : decode cL_known 917 = .ok (.ifCond .ne 49, 3) := by decide +kernel
theorem dL_known_920 : decode cL_known 920 = .ok (.aload_n 0, 1) := by decide +kernel
theorem dL_known_921 : decode cL_known 921 = .ok (.iconst 0, 1) := by decide +kernel
theorem dL_known_922 : decode cL_known 922 = .ok (.bipush 7, 2) := by decide +kernel
theorem dL_known_924 : decode cL_known 924 = .ok (.invokestatic 98, 3) := by decide +kernel
theorem dL_known_927 : decode cL_known 927 = .ok (.ifCond .ne 39, 3) := by decide +kernel
theorem dL_known_930 : decode cL_known 930 = .ok (.aload_n 0, 1) := by decide +kernel
theorem dL_known_931 : decode cL_known 931 = .ok (.iconst 0, 1) := by decide +kernel
theorem dL_known_932 : decode cL_known 932 = .ok (.bipush 6, 2) := by decide +kernel
theorem dL_known_934 : decode cL_known 934 = .ok (.invokestatic 98, 3) := by decide +kernel
theorem dL_known_937 : decode cL_known 937 = .ok (.iconst 1, 1) := by decide +kernel
theorem dL_known_938 : decode cL_known 938 = .ok (.if_icmp .ne 28, 3) := by decide +kernel
theorem dL_known_941 : decode cL_known 941 = .ok (.aload_n 0, 1) := by decide +kernel
theorem dL_known_942 : decode cL_known 942 = .ok (.iconst 5, 1) := by decide +kernel
theorem dL_known_943 : decode cL_known 943 = .ok (.invokestatic 92, 3) := by decide +kernel
theorem dL_known_946 : decode cL_known 946 = .ok (.iconst 1, 1) := by decide +kernel
theorem dL_known_947 : decode cL_known 947 = .ok (.if_icmp .ne 19, 3) := by decide +kernel
theorem dL_known_950 : decode cL_known 950 = .ok (.aload_n 0, 1) := by decide +kernel
theorem dL_known_951 : decode cL_known 951 = .ok (.iconst 0, 1) := by decide +kernel
theorem dL_known_952 : decode cL_known 952 = .ok (.iconst 1, 1) := by decide +kernel
theorem dL_known_953 : decode cL_known 953 = .ok (.invokestatic 142, 3) := by decide +kernel
theorem dL_known_956 : decode cL_known 956 = .ok (.ifCond .ne 10, 3) := by decide +kernel
theorem dL_known_959 : decode cL_known 959 = .ok (.aload_n 0, 1) := by decide +kernel
theorem dL_known_960 : decode cL_known 960 = .ok (.invokestatic 294, 3) := by decide +kernel
theorem dL_known_963 : decode cL_known 963 = .ok (.ifCond .ne 5, 3) := by decide +kernel
theorem dL_known_966 : decode cL_known 966 = .ok (.iconst 0, 1) := by decide +kernel
theorem dL_known_967 : decode cL_known 967 = .ok (.ireturn, 1) := by decide +kernel
theorem dL_known_968 : decode cL_known 968 = .ok (.aload_n 0, 1) := by decide +kernel
theorem dL_known_969 : decode cL_known 969 = .ok (.iconst 1, 1) := by decide +kernel
theorem dL_known_970 : decode cL_known 970 = .ok (.iconst 1, 1) := by decide +kernel
theorem dL_known_971 : decode cL_known 971 = .ok (.invokestatic 165, 3) := by decide +kernel
theorem dL_known_974 : decode cL_known 974 = .ok (.bipush 96, 2) := by decide +kernel
theorem dL_known_976 : decode cL_known 976 = .ok (.if_icmp .ne 133, 3) := by decide +kernel
theorem dL_known_979 : decode cL_known 979 = .ok (.aload_n 0, 1) := by decide +kernel
theorem dL_known_980 : decode cL_known 980 = .ok (.iconst 4, 1) := by decide +kernel
theorem dL_known_981 : decode cL_known 981 = .ok (.invokestatic 92, 3) := by decide +kernel
theorem dL_known_984 : decode cL_known 984 = .ok (.iconst 2, 1) := by decide +kernel
theorem dL_known_985 : decode cL_known 985 = .ok (.if_icmp .ne 124, 3) := by decide +kernel
theorem dL_known_988 : decode cL_known 988 = .ok (.aload_n 0, 1) := by decide +kernel
theorem dL_known_989 : decode cL_known 989 = .ok (.iconst 2, 1) := by decide +kernel
theorem dL_known_990 : decode cL_known 990 = .ok (.invokestatic 92, 3) := by decide +kernel
theorem dL_known_993 : decode cL_known 993 = .ok (.ifCond .ne 116, 3) := by decide +kernel
theorem dL_known_996 : decode cL_known 996 = .ok (.aload_n 0, 1) := by decide +kernel
theorem dL_known_997 : decode cL_known 997 = .ok (.bipush 12, 2) := by decide +kernel
theorem dL_known_999 : decode cL_known 999 = .ok (.invokestatic 92, 3) := by decide +kernel
theorem dL_known_1002 : decode cL_known 1002 = .ok (.bipush 103, 2) := by decide +kernel
theorem dL_known_1004 : decode cL_known 1004 = .ok (.if_icmp .ne 105, 3) := by decide +kernel
theorem dL_known_1007 : decode cL_known 1007 = .ok (.aload_n 0, 1) := by decide +kernel
theorem dL_known_1008 : decode cL_known 1008 = .ok (.iconst 0, 1) := by decide +kernel
theorem dL_known_1009 : decode cL_known 1009 = .ok (.iconst 0, 1) := by decide +kernel
theorem dL_known_1010 : decode cL_known 1010 = .ok (.iconst 0, 1) := by decide +kernel
theorem dL_known_1011 : decode cL_known 1011 = .ok (.iconst 0, 1) := by decide +kernel
theorem dL_known_1012 : decode cL_known 1012 = .ok (.invokestatic 131, 3) := by decide +kernel
theorem dL_known_1015 : decode cL_known 1015 = .ok (.ifCond .lt 94, 3) := by decide +kernel
theorem dL_known_1018 : decode cL_known 1018 = .ok (.aload_n 0, 1) := by decide +kernel
theorem dL_known_1019 : decode cL_known 1019 = .ok (.iconst 0, 1) := by decide +kernel
theorem dL_known_1020 : decode cL_known 1020 = .ok (.iconst 1, 1) := by decide +kernel
theorem dL_known_1021 : decode cL_known 1021 = .ok (.iconst 2, 1) := by decide +kernel
theorem dL_known_1022 : decode cL_known 1022 = .ok (.iconst 0, 1) := by decide +kernel
theorem dL_known_1023 : decode cL_known 1023 = .ok (.invokestatic 131, 3) := by decide +kernel
theorem dL_known_1026 : decode cL_known 1026 = .ok (.ifCond .lt 83, 3) := by decide +kernel
theorem dL_known_1029 : decode cL_known 1029 = .ok (.aload_n 0, 1) := by decide +kernel
theorem dL_known_1030 : decode cL_known 1030 = .ok (.iconst 0, 1) := by decide +kernel
theorem dL_known_1031 : decode cL_known 1031 = .ok (.iconst 2, 1) := by decide +kernel
theorem dL_known_1032 : decode cL_known 1032 = .ok (.iconst 2, 1) := by decide +kernel
theorem dL_known_1033 : decode cL_known 1033 = .ok (.iconst 0, 1) := by decide +kernel
theorem dL_known_1034 : decode cL_known 1034 = .ok (.invokestatic 131, 3) := by decide +kernel
theorem dL_known_1037 : decode cL_known 1037 = .ok (.ifCond .lt 72, 3) := by decide +kernel
theorem dL_known_1040 : decode cL_known 1040 = .ok (.aload_n 0, 1) := by decide +kernel
theorem dL_known_1041 : decode cL_known 1041 = .ok (.iconst 0, 1) := by decide +kernel
theorem dL_known_1042 : decode cL_known 1042 = .ok (.iconst 3, 1) := by decide +kernel
theorem dL_known_1043 : decode cL_known 1043 = .ok (.iconst 0, 1) := by decide +kernel
theorem dL_known_1044 : decode cL_known 1044 = .ok (.iconst 2, 1) := by decide +kernel
theorem dL_known_1045 : decode cL_known 1045 = .ok (.invokestatic 131, 3) := by decide +kernel
theorem dL_known_1048 : decode cL_known 1048 = .ok (.iconst 1, 1) := by decide +kernel
theorem dL_known_1049 : decode cL_known 1049 = .ok (.if_icmp .ne 60, 3) := by decide +kernel
theorem dL_known_1052 : decode cL_known 1052 = .ok (.aload_n 0, 1) := by decide +kernel
theorem dL_known_1053 : decode cL_known 1053 = .ok (.iconst 0, 1) := by decide +kernel
theorem dL_known_1054 : decode cL_known 1054 = .ok (.iconst 0, 1) := by decide +kernel
theorem dL_known_1055 : decode cL_known 1055 = .ok (.iconst 0, 1) := by decide +kernel
theorem dL_known_1056 : decode cL_known 1056 = .ok (.invokestatic 146, 3) := by decide +kernel
theorem dL_known_1059 : decode cL_known 1059 = .ok (.iconst 2, 1) := by decide +kernel
theorem dL_known_1060 : decode cL_known 1060 = .ok (.if_icmp .ne 49, 3) := by decide +kernel
theorem dL_known_1063 : decode cL_known 1063 = .ok (.aload_n 0, 1) := by decide +kernel
theorem dL_known_1064 : decode cL_known 1064 = .ok (.iconst 0, 1) := by decide +kernel
theorem dL_known_1065 : decode cL_known 1065 = .ok (.iconst 1, 1) := by decide +kernel
theorem dL_known_1066 : decode cL_known 1066 = .ok (.iconst 0, 1) := by decide +kernel
theorem dL_known_1067 : decode cL_known 1067 = .ok (.iconst 2, 1) := by decide +kernel
theorem dL_known_1068 : decode cL_known 1068 = .ok (.invokestatic 131, 3) := by decide +kernel
theorem dL_known_1071 : decode cL_known 1071 = .ok (.ifCond .lt 38, 3) := by decide +kernel
theorem dL_known_1074 : decode cL_known 1074 = .ok (.aload_n 0, 1) := by decide +kernel
theorem dL_known_1075 : decode cL_known 1075 = .ok (.iconst 0, 1) := by decide +kernel
theorem dL_known_1076 : decode cL_known 1076 = .ok (.iconst 2, 1) := by decide +kernel
theorem dL_known_1077 : decode cL_known 1077 = .ok (.iconst 0, 1) := by decide +kernel
theorem dL_known_1078 : decode cL_known 1078 = .ok (.iconst 2, 1) := by decide +kernel
theorem dL_known_1079 : decode cL_known 1079 = .ok (.invokestatic 131, 3) := by decide +kernel
theorem dL_known_1082 : decode cL_known 1082 = .ok (.ifCond .lt 27, 3) := by decide +kernel
theorem dL_known_1085 : decode cL_known 1085 = .ok (.aload_n 0, 1) := by decide +kernel
theorem dL_known_1086 : decode cL_known 1086 = .ok (.iconst 0, 1) := by decide +kernel
theorem dL_known_1087 : decode cL_known 1087 = .ok (.iconst 3, 1) := by decide +kernel
theorem dL_known_1088 : decode cL_known 1088 = .ok (.iconst 2, 1) := by decide +kernel
theorem dL_known_1089 : decode cL_known 1089 = .ok (.iconst 0, 1) := by decide +kernel
theorem dL_known_1090 : decode cL_known 1090 = .ok (.invokestatic 131, 3) := by decide +kernel
theorem dL_known_1093 : decode cL_known 1093 = .ok (.ifCond .ne 16, 3) := by decide +kernel
theorem dL_known_1096 : decode cL_known 1096 = .ok (.aload_n 0, 1) := by decide +kernel
theorem dL_known_1097 : decode cL_known 1097 = .ok (.iconst 0, 1) := by decide +kernel
theorem dL_known_1098 : decode cL_known 1098 = .ok (.iconst 0, 1) := by decide +kernel
theorem dL_known_1099 : decode cL_known 1099 = .ok (.iconst 0, 1) := by decide +kernel
theorem dL_known_1100 : decode cL_known 1100 = .ok (.invokestatic 146, 3) := by decide +kernel
theorem dL_known_1103 : decode cL_known 1103 = .ok (.sipush (-1000), 3) := by decide +kernel
theorem dL_known_1106 : decode cL_known 1106 = .ok (.if_icmp .eq 5, 3) := by decide +kernel
theorem dL_known_1109 : decode cL_known 1109 = .ok (.iconst 0, 1) := by decide +kernel
theorem dL_known_1110 : decode cL_known 1110 = .ok (.ireturn, 1) := by decide +kernel
theorem dL_known_1111 : decode cL_known 1111 = .ok (.aload_n 0, 1) := by decide +kernel
theorem dL_known_1112 : decode cL_known 1112 = .ok (.iconst 4, 1) := by decide +kernel
theorem dL_known_1113 : decode cL_known 1113 = .ok (.invokestatic 297, 3) := by decide +kernel
theorem dL_known_1116 : decode cL_known 1116 = .ok (.ifCond .eq 44, 3) := by decide +kernel
theorem dL_known_1119 : decode cL_known 1119 = .ok (.aload_n 0, 1) := by decide +kernel
theorem dL_known_1120 : decode cL_known 1120 = .ok (.invokestatic 199, 3) := by decide +kernel
theorem dL_known_1123 : decode cL_known 1123 = .ok (.iconst 3, 1) := by decide +kernel
theorem dL_known_1124 : decode cL_known 1124 = .ok (.if_icmp .ne 36, 3) := by decide +kernel
theorem dL_known_1127 : decode cL_known 1127 = .ok (.aload_n 0, 1) := by decide +kernel
theorem dL_known_1128 : decode cL_known 1128 = .ok (.iconst 0, 1) := by decide +kernel
theorem dL_known_1129 : decode cL_known 1129 = .ok (.iconst 3, 1) := by decide +kernel
theorem dL_known_1130 : decode cL_known 1130 = .ok (.iconst 0, 1) := by decide +kernel
theorem dL_known_1131 : decode cL_known 1131 = .ok (.invokestatic 106, 3) := by decide +kernel
theorem dL_known_1134 : decode cL_known 1134 = .ok (.ifCond .ne 26, 3) := by decide +kernel
theorem dL_known_1137 : decode cL_known 1137 = .ok (.aload_n 0, 1) := by decide +kernel
theorem dL_known_1138 : decode cL_known 1138 = .ok (.iconst 0, 1) := by decide +kernel
theorem dL_known_1139 : decode cL_known 1139 = .ok (.iconst 3, 1) := by decide +kernel
theorem dL_known_1140 : decode cL_known 1140 = .ok (.iconst 1, 1) := by decide +kernel
theorem dL_known_1141 : decode cL_known 1141 = .ok (.invokestatic 106, 3) := by decide +kernel
theorem dL_known_1144 : decode cL_known 1144 = .ok (.iconst 2, 1) := by decide +kernel
theorem dL_known_1145 : decode cL_known 1145 = .ok (.if_icmp .ne 15, 3) := by decide +kernel
theorem dL_known_1148 : decode cL_known 1148 = .ok (.aload_n 0, 1) := by decide +kernel
theorem dL_known_1149 : decode cL_known 1149 = .ok (.iconst 3, 1) := by decide +kernel
theorem dL_known_1150 : decode cL_known 1150 = .ok (.invokestatic 297, 3) := by decide +kernel
theorem dL_known_1153 : decode cL_known 1153 = .ok (.ifCond .eq 7, 3) := by decide +kernel
theorem dL_known_1156 : decode cL_known 1156 = .ok (.iconst 1, 1) := by decide +kernel
theorem dL_known_1157 : decode cL_known 1157 = .ok (.goto 4, 3) := by decide +kernel
theorem dL_known_1160 : decode cL_known 1160 = .ok (.iconst 0, 1) := by decide +kernel
theorem dL_known_1161 : decode cL_known 1161 = .ok (.ireturn, 1) := by decide +kernel
