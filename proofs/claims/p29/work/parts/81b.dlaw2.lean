theorem dL_refusesPlaces_0 : decode cL_refusesPlaces 0 = .ok (.iconst 0, 1) := by decide +kernel
theorem dL_refusesPlaces_1 : decode cL_refusesPlaces 1 = .ok (.istore_n 1, 1) := by decide +kernel
theorem dL_refusesPlaces_2 : decode cL_refusesPlaces 2 = .ok (.iload_n 1, 1) := by decide +kernel
theorem dL_refusesPlaces_3 : decode cL_refusesPlaces 3 = .ok (.iconst 2, 1) := by decide +kernel
theorem dL_refusesPlaces_4 : decode cL_refusesPlaces 4 = .ok (.if_icmp .ge 403, 3) := by decide +kernel
theorem dL_refusesPlaces_7 : decode cL_refusesPlaces 7 = .ok (.iload_n 1, 1) := by decide +kernel
theorem dL_refusesPlaces_8 : decode cL_refusesPlaces 8 = .ok (.ifCond .ne 11, 3) := by decide +kernel
theorem dL_refusesPlaces_11 : decode cL_refusesPlaces 11 = .ok (.aload_n 0, 1) := by decide +kernel
theorem dL_refusesPlaces_12 : decode cL_refusesPlaces 12 = .ok (.iconst 4, 1) := by decide +kernel
theorem dL_refusesPlaces_13 : decode cL_refusesPlaces 13 = .ok (.invokestatic 92, 3) := by decide +kernel
theorem dL_refusesPlaces_16 : decode cL_refusesPlaces 16 = .ok (.goto 4, 3) := by decide +kernel
theorem dL_refusesPlaces_19 : decode cL_refusesPlaces 19 = .ok (.iconst (-1), 1) := by decide +kernel
theorem dL_refusesPlaces_20 : decode cL_refusesPlaces 20 = .ok (.istore_n 2, 1) := by decide +kernel
theorem dL_refusesPlaces_21 : decode cL_refusesPlaces 21 = .ok (.iload_n 1, 1) := by decide +kernel
theorem dL_refusesPlaces_22 : decode cL_refusesPlaces 22 = .ok (.ifCond .ne 11, 3) := by decide +kernel
theorem dL_refusesPlaces_25 : decode cL_refusesPlaces 25 = .ok (.aload_n 0, 1) := by decide +kernel
theorem dL_refusesPlaces_26 : decode cL_refusesPlaces 26 = .ok (.iconst 0, 1) := by decide +kernel
theorem dL_refusesPlaces_27 : decode cL_refusesPlaces 27 = .ok (.invokestatic 92, 3) := by decide +kernel
theorem dL_refusesPlaces_30 : decode cL_refusesPlaces 30 = .ok (.goto 4, 3) := by decide +kernel
theorem dL_refusesPlaces_33 : decode cL_refusesPlaces 33 = .ok (.iconst (-1), 1) := by decide +kernel
theorem dL_refusesPlaces_34 : decode cL_refusesPlaces 34 = .ok (.istore_n 3, 1) := by decide +kernel
theorem dL_refusesPlaces_35 : decode cL_refusesPlaces 35 = .ok (.iload_n 1, 1) := by decide +kernel
theorem dL_refusesPlaces_36 : decode cL_refusesPlaces 36 = .ok (.ifCond .ne 11, 3) := by decide +kernel
theorem dL_refusesPlaces_39 : decode cL_refusesPlaces 39 = .ok (.aload_n 0, 1) := by decide +kernel
theorem dL_refusesPlaces_40 : decode cL_refusesPlaces 40 = .ok (.iconst 1, 1) := by decide +kernel
theorem dL_refusesPlaces_41 : decode cL_refusesPlaces 41 = .ok (.invokestatic 92, 3) := by decide +kernel
theorem dL_refusesPlaces_44 : decode cL_refusesPlaces 44 = .ok (.goto 4, 3) := by decide +kernel
theorem dL_refusesPlaces_47 : decode cL_refusesPlaces 47 = .ok (.iconst (-1), 1) := by decide +kernel
theorem dL_refusesPlaces_48 : decode cL_refusesPlaces 48 = .ok (.istore 4, 2) := by decide +kernel
theorem dL_refusesPlaces_50 : decode cL_refusesPlaces 50 = .ok (.aload_n 0, 1) := by decide +kernel
theorem dL_refusesPlaces_51 : decode cL_refusesPlaces 51 = .ok (.iload_n 2, 1) := by decide +kernel
theorem dL_refusesPlaces_52 : decode cL_refusesPlaces 52 = .ok (.iconst 0, 1) := by decide +kernel
theorem dL_refusesPlaces_53 : decode cL_refusesPlaces 53 = .ok (.iconst 0, 1) := by decide +kernel
theorem dL_refusesPlaces_54 : decode cL_refusesPlaces 54 = .ok (.iconst 0, 1) := by decide +kernel
theorem dL_refusesPlaces_55 : decode cL_refusesPlaces 55 = .ok (.invokestatic 131, 3) := by decide +kernel
theorem dL_refusesPlaces_58 : decode cL_refusesPlaces 58 = .ok (.sipush (-3001), 3) := by decide +kernel
theorem dL_refusesPlaces_61 : decode cL_refusesPlaces 61 = .ok (.if_icmp .ne 136, 3) := by decide +kernel
theorem dL_refusesPlaces_64 : decode cL_refusesPlaces 64 = .ok (.aload_n 0, 1) := by decide +kernel
theorem dL_refusesPlaces_65 : decode cL_refusesPlaces 65 = .ok (.iload_n 2, 1) := by decide +kernel
theorem dL_refusesPlaces_66 : decode cL_refusesPlaces 66 = .ok (.iconst 4, 1) := by decide +kernel
theorem dL_refusesPlaces_67 : decode cL_refusesPlaces 67 = .ok (.bipush 99, 2) := by decide +kernel
theorem dL_refusesPlaces_69 : decode cL_refusesPlaces 69 = .ok (.bipush 99, 2) := by decide +kernel
theorem dL_refusesPlaces_71 : decode cL_refusesPlaces 71 = .ok (.invokestatic 131, 3) := by decide +kernel
theorem dL_refusesPlaces_74 : decode cL_refusesPlaces 74 = .ok (.sipush (-3001), 3) := by decide +kernel
theorem dL_refusesPlaces_77 : decode cL_refusesPlaces 77 = .ok (.if_icmp .ne 120, 3) := by decide +kernel
theorem dL_refusesPlaces_80 : decode cL_refusesPlaces 80 = .ok (.aload_n 0, 1) := by decide +kernel
theorem dL_refusesPlaces_81 : decode cL_refusesPlaces 81 = .ok (.iload_n 2, 1) := by decide +kernel
theorem dL_refusesPlaces_82 : decode cL_refusesPlaces 82 = .ok (.iconst 0, 1) := by decide +kernel
theorem dL_refusesPlaces_83 : decode cL_refusesPlaces 83 = .ok (.iconst 0, 1) := by decide +kernel
theorem dL_refusesPlaces_84 : decode cL_refusesPlaces 84 = .ok (.iconst 0, 1) := by decide +kernel
theorem dL_refusesPlaces_85 : decode cL_refusesPlaces 85 = .ok (.iconst 0, 1) := by decide +kernel
theorem dL_refusesPlaces_86 : decode cL_refusesPlaces 86 = .ok (.invokestatic 135, 3) := by decide +kernel
theorem dL_refusesPlaces_89 : decode cL_refusesPlaces 89 = .ok (.sipush (-3001), 3) := by decide +kernel
theorem dL_refusesPlaces_92 : decode cL_refusesPlaces 92 = .ok (.if_icmp .ne 105, 3) := by decide +kernel
theorem dL_refusesPlaces_95 : decode cL_refusesPlaces 95 = .ok (.aload_n 0, 1) := by decide +kernel
theorem dL_refusesPlaces_96 : decode cL_refusesPlaces 96 = .ok (.iload_n 2, 1) := by decide +kernel
theorem dL_refusesPlaces_97 : decode cL_refusesPlaces 97 = .ok (.bipush 9, 2) := by decide +kernel
theorem dL_refusesPlaces_99 : decode cL_refusesPlaces 99 = .ok (.bipush 9, 2) := by decide +kernel
theorem dL_refusesPlaces_101 : decode cL_refusesPlaces 101 = .ok (.invokestatic 139, 3) := by decide +kernel
theorem dL_refusesPlaces_104 : decode cL_refusesPlaces 104 = .ok (.sipush (-3001), 3) := by decide +kernel
theorem dL_refusesPlaces_107 : decode cL_refusesPlaces 107 = .ok (.if_icmp .ne 90, 3) := by decide +kernel
theorem dL_refusesPlaces_110 : decode cL_refusesPlaces 110 = .ok (.aload_n 0, 1) := by decide +kernel
theorem dL_refusesPlaces_111 : decode cL_refusesPlaces 111 = .ok (.iload_n 2, 1) := by decide +kernel
theorem dL_refusesPlaces_112 : decode cL_refusesPlaces 112 = .ok (.iconst 1, 1) := by decide +kernel
theorem dL_refusesPlaces_113 : decode cL_refusesPlaces 113 = .ok (.invokestatic 142, 3) := by decide +kernel
theorem dL_refusesPlaces_116 : decode cL_refusesPlaces 116 = .ok (.sipush (-3001), 3) := by decide +kernel
theorem dL_refusesPlaces_119 : decode cL_refusesPlaces 119 = .ok (.if_icmp .ne 78, 3) := by decide +kernel
theorem dL_refusesPlaces_122 : decode cL_refusesPlaces 122 = .ok (.aload_n 0, 1) := by decide +kernel
theorem dL_refusesPlaces_123 : decode cL_refusesPlaces 123 = .ok (.iload_n 2, 1) := by decide +kernel
theorem dL_refusesPlaces_124 : decode cL_refusesPlaces 124 = .ok (.iconst 0, 1) := by decide +kernel
theorem dL_refusesPlaces_125 : decode cL_refusesPlaces 125 = .ok (.iconst 0, 1) := by decide +kernel
theorem dL_refusesPlaces_126 : decode cL_refusesPlaces 126 = .ok (.invokestatic 113, 3) := by decide +kernel
theorem dL_refusesPlaces_129 : decode cL_refusesPlaces 129 = .ok (.sipush (-3001), 3) := by decide +kernel
theorem dL_refusesPlaces_132 : decode cL_refusesPlaces 132 = .ok (.if_icmp .ne 65, 3) := by decide +kernel
theorem dL_refusesPlaces_135 : decode cL_refusesPlaces 135 = .ok (.aload_n 0, 1) := by decide +kernel
theorem dL_refusesPlaces_136 : decode cL_refusesPlaces 136 = .ok (.iload_n 2, 1) := by decide +kernel
theorem dL_refusesPlaces_137 : decode cL_refusesPlaces 137 = .ok (.iconst 0, 1) := by decide +kernel
theorem dL_refusesPlaces_138 : decode cL_refusesPlaces 138 = .ok (.iconst 0, 1) := by decide +kernel
theorem dL_refusesPlaces_139 : decode cL_refusesPlaces 139 = .ok (.invokestatic 146, 3) := by decide +kernel
theorem dL_refusesPlaces_142 : decode cL_refusesPlaces 142 = .ok (.sipush (-3001), 3) := by decide +kernel
theorem dL_refusesPlaces_145 : decode cL_refusesPlaces 145 = .ok (.if_icmp .ne 52, 3) := by decide +kernel
theorem dL_refusesPlaces_148 : decode cL_refusesPlaces 148 = .ok (.aload_n 0, 1) := by decide +kernel
theorem dL_refusesPlaces_149 : decode cL_refusesPlaces 149 = .ok (.iload_n 2, 1) := by decide +kernel
theorem dL_refusesPlaces_150 : decode cL_refusesPlaces 150 = .ok (.bipush 99, 2) := by decide +kernel
theorem dL_refusesPlaces_152 : decode cL_refusesPlaces 152 = .ok (.invokestatic 98, 3) := by decide +kernel
theorem dL_refusesPlaces_155 : decode cL_refusesPlaces 155 = .ok (.sipush (-3001), 3) := by decide +kernel
theorem dL_refusesPlaces_158 : decode cL_refusesPlaces 158 = .ok (.if_icmp .ne 39, 3) := by decide +kernel
theorem dL_refusesPlaces_161 : decode cL_refusesPlaces 161 = .ok (.aload_n 0, 1) := by decide +kernel
theorem dL_refusesPlaces_162 : decode cL_refusesPlaces 162 = .ok (.iload_n 2, 1) := by decide +kernel
theorem dL_refusesPlaces_163 : decode cL_refusesPlaces 163 = .ok (.iconst 0, 1) := by decide +kernel
theorem dL_refusesPlaces_164 : decode cL_refusesPlaces 164 = .ok (.bipush 9, 2) := by decide +kernel
theorem dL_refusesPlaces_166 : decode cL_refusesPlaces 166 = .ok (.invokestatic 106, 3) := by decide +kernel
theorem dL_refusesPlaces_169 : decode cL_refusesPlaces 169 = .ok (.sipush (-3001), 3) := by decide +kernel
theorem dL_refusesPlaces_172 : decode cL_refusesPlaces 172 = .ok (.if_icmp .ne 25, 3) := by decide +kernel
theorem dL_refusesPlaces_175 : decode cL_refusesPlaces 175 = .ok (.aload_n 0, 1) := by decide +kernel
theorem dL_refusesPlaces_176 : decode cL_refusesPlaces 176 = .ok (.iload_n 2, 1) := by decide +kernel
theorem dL_refusesPlaces_177 : decode cL_refusesPlaces 177 = .ok (.invokestatic 149, 3) := by decide +kernel
theorem dL_refusesPlaces_180 : decode cL_refusesPlaces 180 = .ok (.sipush (-3001), 3) := by decide +kernel
theorem dL_refusesPlaces_183 : decode cL_refusesPlaces 183 = .ok (.if_icmp .ne 14, 3) := by decide +kernel
theorem dL_refusesPlaces_186 : decode cL_refusesPlaces 186 = .ok (.aload_n 0, 1) := by decide +kernel
theorem dL_refusesPlaces_187 : decode cL_refusesPlaces 187 = .ok (.iload_n 2, 1) := by decide +kernel
theorem dL_refusesPlaces_188 : decode cL_refusesPlaces 188 = .ok (.invokestatic 152, 3) := by decide +kernel
theorem dL_refusesPlaces_191 : decode cL_refusesPlaces 191 = .ok (.sipush (-3001), 3) := by decide +kernel
theorem dL_refusesPlaces_194 : decode cL_refusesPlaces 194 = .ok (.if_icmp .eq 5, 3) := by decide +kernel
theorem dL_refusesPlaces_197 : decode cL_refusesPlaces 197 = .ok (.iconst 0, 1) := by decide +kernel
theorem dL_refusesPlaces_198 : decode cL_refusesPlaces 198 = .ok (.ireturn, 1) := by decide +kernel
theorem dL_refusesPlaces_199 : decode cL_refusesPlaces 199 = .ok (.aload_n 0, 1) := by decide +kernel
theorem dL_refusesPlaces_200 : decode cL_refusesPlaces 200 = .ok (.iload_n 3, 1) := by decide +kernel
theorem dL_refusesPlaces_201 : decode cL_refusesPlaces 201 = .ok (.iconst 0, 1) := by decide +kernel
theorem dL_refusesPlaces_202 : decode cL_refusesPlaces 202 = .ok (.iload_n 3, 1) := by decide +kernel
theorem dL_refusesPlaces_203 : decode cL_refusesPlaces 203 = .ok (.iconst 0, 1) := by decide +kernel
theorem dL_refusesPlaces_204 : decode cL_refusesPlaces 204 = .ok (.iconst 0, 1) := by decide +kernel
theorem dL_refusesPlaces_205 : decode cL_refusesPlaces 205 = .ok (.invokestatic 155, 3) := by decide +kernel
theorem dL_refusesPlaces_208 : decode cL_refusesPlaces 208 = .ok (.sipush (-3001), 3) := by decide +kernel
theorem dL_refusesPlaces_211 : decode cL_refusesPlaces 211 = .ok (.if_icmp .ne 81, 3) := by decide +kernel
theorem dL_refusesPlaces_214 : decode cL_refusesPlaces 214 = .ok (.aload_n 0, 1) := by decide +kernel
theorem dL_refusesPlaces_215 : decode cL_refusesPlaces 215 = .ok (.iconst 0, 1) := by decide +kernel
theorem dL_refusesPlaces_216 : decode cL_refusesPlaces 216 = .ok (.iload 4, 2) := by decide +kernel
theorem dL_refusesPlaces_218 : decode cL_refusesPlaces 218 = .ok (.iconst 0, 1) := by decide +kernel
theorem dL_refusesPlaces_219 : decode cL_refusesPlaces 219 = .ok (.iload 4, 2) := by decide +kernel
theorem dL_refusesPlaces_221 : decode cL_refusesPlaces 221 = .ok (.iconst 0, 1) := by decide +kernel
theorem dL_refusesPlaces_222 : decode cL_refusesPlaces 222 = .ok (.invokestatic 155, 3) := by decide +kernel
theorem dL_refusesPlaces_225 : decode cL_refusesPlaces 225 = .ok (.sipush (-3001), 3) := by decide +kernel
theorem dL_refusesPlaces_228 : decode cL_refusesPlaces 228 = .ok (.if_icmp .ne 64, 3) := by decide +kernel
theorem dL_refusesPlaces_231 : decode cL_refusesPlaces 231 = .ok (.aload_n 0, 1) := by decide +kernel
theorem dL_refusesPlaces_232 : decode cL_refusesPlaces 232 = .ok (.iconst 0, 1) := by decide +kernel
theorem dL_refusesPlaces_233 : decode cL_refusesPlaces 233 = .ok (.iconst 0, 1) := by decide +kernel
theorem dL_refusesPlaces_234 : decode cL_refusesPlaces 234 = .ok (.iload_n 3, 1) := by decide +kernel
theorem dL_refusesPlaces_235 : decode cL_refusesPlaces 235 = .ok (.iconst 0, 1) := by decide +kernel
theorem dL_refusesPlaces_236 : decode cL_refusesPlaces 236 = .ok (.sipush 999, 3) := by decide +kernel
theorem dL_refusesPlaces_239 : decode cL_refusesPlaces 239 = .ok (.invokestatic 155, 3) := by decide +kernel
theorem dL_refusesPlaces_242 : decode cL_refusesPlaces 242 = .ok (.sipush (-3001), 3) := by decide +kernel
theorem dL_refusesPlaces_245 : decode cL_refusesPlaces 245 = .ok (.if_icmp .ne 47, 3) := by decide +kernel
theorem dL_refusesPlaces_248 : decode cL_refusesPlaces 248 = .ok (.aload_n 0, 1) := by decide +kernel
theorem dL_refusesPlaces_249 : decode cL_refusesPlaces 249 = .ok (.iconst 0, 1) := by decide +kernel
theorem dL_refusesPlaces_250 : decode cL_refusesPlaces 250 = .ok (.iconst 0, 1) := by decide +kernel
theorem dL_refusesPlaces_251 : decode cL_refusesPlaces 251 = .ok (.iconst 0, 1) := by decide +kernel
theorem dL_refusesPlaces_252 : decode cL_refusesPlaces 252 = .ok (.iload 4, 2) := by decide +kernel
theorem dL_refusesPlaces_254 : decode cL_refusesPlaces 254 = .ok (.iconst 0, 1) := by decide +kernel
theorem dL_refusesPlaces_255 : decode cL_refusesPlaces 255 = .ok (.invokestatic 155, 3) := by decide +kernel
theorem dL_refusesPlaces_258 : decode cL_refusesPlaces 258 = .ok (.sipush (-3001), 3) := by decide +kernel
theorem dL_refusesPlaces_261 : decode cL_refusesPlaces 261 = .ok (.if_icmp .ne 31, 3) := by decide +kernel
theorem dL_refusesPlaces_264 : decode cL_refusesPlaces 264 = .ok (.aload_n 0, 1) := by decide +kernel
theorem dL_refusesPlaces_265 : decode cL_refusesPlaces 265 = .ok (.iload_n 3, 1) := by decide +kernel
theorem dL_refusesPlaces_266 : decode cL_refusesPlaces 266 = .ok (.iconst 0, 1) := by decide +kernel
theorem dL_refusesPlaces_267 : decode cL_refusesPlaces 267 = .ok (.bipush 9, 2) := by decide +kernel
theorem dL_refusesPlaces_269 : decode cL_refusesPlaces 269 = .ok (.invokestatic 110, 3) := by decide +kernel
theorem dL_refusesPlaces_272 : decode cL_refusesPlaces 272 = .ok (.sipush (-3001), 3) := by decide +kernel
theorem dL_refusesPlaces_275 : decode cL_refusesPlaces 275 = .ok (.if_icmp .ne 17, 3) := by decide +kernel
theorem dL_refusesPlaces_278 : decode cL_refusesPlaces 278 = .ok (.aload_n 0, 1) := by decide +kernel
theorem dL_refusesPlaces_279 : decode cL_refusesPlaces 279 = .ok (.iconst 0, 1) := by decide +kernel
theorem dL_refusesPlaces_280 : decode cL_refusesPlaces 280 = .ok (.iload 4, 2) := by decide +kernel
theorem dL_refusesPlaces_282 : decode cL_refusesPlaces 282 = .ok (.iconst 0, 1) := by decide +kernel
theorem dL_refusesPlaces_283 : decode cL_refusesPlaces 283 = .ok (.invokestatic 110, 3) := by decide +kernel
theorem dL_refusesPlaces_286 : decode cL_refusesPlaces 286 = .ok (.sipush (-3001), 3) := by decide +kernel
theorem dL_refusesPlaces_289 : decode cL_refusesPlaces 289 = .ok (.if_icmp .eq 5, 3) := by decide +kernel
theorem dL_refusesPlaces_292 : decode cL_refusesPlaces 292 = .ok (.iconst 0, 1) := by decide +kernel
theorem dL_refusesPlaces_293 : decode cL_refusesPlaces 293 = .ok (.ireturn, 1) := by decide +kernel
theorem dL_refusesPlaces_294 : decode cL_refusesPlaces 294 = .ok (.aload_n 0, 1) := by decide +kernel
theorem dL_refusesPlaces_295 : decode cL_refusesPlaces 295 = .ok (.iconst 4, 1) := by decide +kernel
theorem dL_refusesPlaces_296 : decode cL_refusesPlaces 296 = .ok (.invokestatic 92, 3) := by decide +kernel
theorem dL_refusesPlaces_299 : decode cL_refusesPlaces 299 = .ok (.ifCond .le 102, 3) := by decide +kernel
theorem dL_refusesPlaces_302 : decode cL_refusesPlaces 302 = .ok (.aload_n 0, 1) := by decide +kernel
theorem dL_refusesPlaces_303 : decode cL_refusesPlaces 303 = .ok (.iconst 0, 1) := by decide +kernel
theorem dL_refusesPlaces_304 : decode cL_refusesPlaces 304 = .ok (.iload_n 1, 1) := by decide +kernel
theorem dL_refusesPlaces_305 : decode cL_refusesPlaces 305 = .ok (.ifCond .ne 7, 3) := by decide +kernel
theorem dL_refusesPlaces_308 : decode cL_refusesPlaces 308 = .ok (.iconst 4, 1) := by decide +kernel
theorem dL_refusesPlaces_309 : decode cL_refusesPlaces 309 = .ok (.goto 4, 3) := by decide +kernel
theorem dL_refusesPlaces_312 : decode cL_refusesPlaces 312 = .ok (.iconst (-1), 1) := by decide +kernel
theorem dL_refusesPlaces_313 : decode cL_refusesPlaces 313 = .ok (.iconst 0, 1) := by decide +kernel
theorem dL_refusesPlaces_314 : decode cL_refusesPlaces 314 = .ok (.iconst 0, 1) := by decide +kernel
theorem dL_refusesPlaces_315 : decode cL_refusesPlaces 315 = .ok (.invokestatic 131, 3) := by decide +kernel
theorem dL_refusesPlaces_318 : decode cL_refusesPlaces 318 = .ok (.sipush (-3001), 3) := by decide +kernel
theorem dL_refusesPlaces_321 : decode cL_refusesPlaces 321 = .ok (.if_icmp .ne 78, 3) := by decide +kernel
theorem dL_refusesPlaces_324 : decode cL_refusesPlaces 324 = .ok (.aload_n 0, 1) := by decide +kernel
theorem dL_refusesPlaces_325 : decode cL_refusesPlaces 325 = .ok (.iconst 0, 1) := by decide +kernel
theorem dL_refusesPlaces_326 : decode cL_refusesPlaces 326 = .ok (.iload_n 1, 1) := by decide +kernel
theorem dL_refusesPlaces_327 : decode cL_refusesPlaces 327 = .ok (.ifCond .ne 7, 3) := by decide +kernel
theorem dL_refusesPlaces_330 : decode cL_refusesPlaces 330 = .ok (.iconst 4, 1) := by decide +kernel
theorem dL_refusesPlaces_331 : decode cL_refusesPlaces 331 = .ok (.goto 4, 3) := by decide +kernel
theorem dL_refusesPlaces_334 : decode cL_refusesPlaces 334 = .ok (.iconst (-1), 1) := by decide +kernel
theorem dL_refusesPlaces_335 : decode cL_refusesPlaces 335 = .ok (.iconst 0, 1) := by decide +kernel
theorem dL_refusesPlaces_336 : decode cL_refusesPlaces 336 = .ok (.invokestatic 106, 3) := by decide +kernel
theorem dL_refusesPlaces_339 : decode cL_refusesPlaces 339 = .ok (.sipush (-3001), 3) := by decide +kernel
theorem dL_refusesPlaces_342 : decode cL_refusesPlaces 342 = .ok (.if_icmp .ne 57, 3) := by decide +kernel
theorem dL_refusesPlaces_345 : decode cL_refusesPlaces 345 = .ok (.aload_n 0, 1) := by decide +kernel
theorem dL_refusesPlaces_346 : decode cL_refusesPlaces 346 = .ok (.iconst 0, 1) := by decide +kernel
theorem dL_refusesPlaces_347 : decode cL_refusesPlaces 347 = .ok (.iload_n 3, 1) := by decide +kernel
theorem dL_refusesPlaces_348 : decode cL_refusesPlaces 348 = .ok (.iconst 0, 1) := by decide +kernel
theorem dL_refusesPlaces_349 : decode cL_refusesPlaces 349 = .ok (.invokestatic 113, 3) := by decide +kernel
theorem dL_refusesPlaces_352 : decode cL_refusesPlaces 352 = .ok (.sipush (-3001), 3) := by decide +kernel
theorem dL_refusesPlaces_355 : decode cL_refusesPlaces 355 = .ok (.if_icmp .ne 44, 3) := by decide +kernel
theorem dL_refusesPlaces_358 : decode cL_refusesPlaces 358 = .ok (.aload_n 0, 1) := by decide +kernel
theorem dL_refusesPlaces_359 : decode cL_refusesPlaces 359 = .ok (.iconst 0, 1) := by decide +kernel
theorem dL_refusesPlaces_360 : decode cL_refusesPlaces 360 = .ok (.iconst 0, 1) := by decide +kernel
theorem dL_refusesPlaces_361 : decode cL_refusesPlaces 361 = .ok (.iload 4, 2) := by decide +kernel
theorem dL_refusesPlaces_363 : decode cL_refusesPlaces 363 = .ok (.invokestatic 113, 3) := by decide +kernel
theorem dL_refusesPlaces_366 : decode cL_refusesPlaces 366 = .ok (.sipush (-3001), 3) := by decide +kernel
theorem dL_refusesPlaces_369 : decode cL_refusesPlaces 369 = .ok (.if_icmp .ne 30, 3) := by decide +kernel
theorem dL_refusesPlaces_372 : decode cL_refusesPlaces 372 = .ok (.aload_n 0, 1) := by decide +kernel
theorem dL_refusesPlaces_373 : decode cL_refusesPlaces 373 = .ok (.iconst 0, 1) := by decide +kernel
theorem dL_refusesPlaces_374 : decode cL_refusesPlaces 374 = .ok (.iload_n 3, 1) := by decide +kernel
theorem dL_refusesPlaces_375 : decode cL_refusesPlaces 375 = .ok (.iconst 0, 1) := by decide +kernel
theorem dL_refusesPlaces_376 : decode cL_refusesPlaces 376 = .ok (.invokestatic 146, 3) := by decide +kernel
theorem dL_refusesPlaces_379 : decode cL_refusesPlaces 379 = .ok (.sipush (-3001), 3) := by decide +kernel
theorem dL_refusesPlaces_382 : decode cL_refusesPlaces 382 = .ok (.if_icmp .ne 17, 3) := by decide +kernel
theorem dL_refusesPlaces_385 : decode cL_refusesPlaces 385 = .ok (.aload_n 0, 1) := by decide +kernel
theorem dL_refusesPlaces_386 : decode cL_refusesPlaces 386 = .ok (.iconst 0, 1) := by decide +kernel
theorem dL_refusesPlaces_387 : decode cL_refusesPlaces 387 = .ok (.iconst 0, 1) := by decide +kernel
theorem dL_refusesPlaces_388 : decode cL_refusesPlaces 388 = .ok (.iload 4, 2) := by decide +kernel
theorem dL_refusesPlaces_390 : decode cL_refusesPlaces 390 = .ok (.invokestatic 146, 3) := by decide +kernel
theorem dL_refusesPlaces_393 : decode cL_refusesPlaces 393 = .ok (.sipush (-3001), 3) := by decide +kernel
theorem dL_refusesPlaces_396 : decode cL_refusesPlaces 396 = .ok (.if_icmp .eq 5, 3) := by decide +kernel
theorem dL_refusesPlaces_399 : decode cL_refusesPlaces 399 = .ok (.iconst 0, 1) := by decide +kernel
theorem dL_refusesPlaces_400 : decode cL_refusesPlaces 400 = .ok (.ireturn, 1) := by decide +kernel
theorem dL_refusesPlaces_401 : decode cL_refusesPlaces 401 = .ok (.iinc 1 1, 3) := by decide +kernel
theorem dL_refusesPlaces_404 : decode cL_refusesPlaces 404 = .ok (.goto (-402), 3) := by decide +kernel
theorem dL_refusesPlaces_407 : decode cL_refusesPlaces 407 = .ok (.iconst 1, 1) := by decide +kernel
theorem dL_refusesPlaces_408 : decode cL_refusesPlaces 408 = .ok (.ireturn, 1) := by decide +kernel
theorem dL_refusesLamps_0 : decode cL_refusesLamps 0 = .ok (.iconst 0, 1) := by decide +kernel
theorem dL_refusesLamps_1 : decode cL_refusesLamps 1 = .ok (.istore_n 1, 1) := by decide +kernel
theorem dL_refusesLamps_2 : decode cL_refusesLamps 2 = .ok (.iload_n 1, 1) := by decide +kernel
theorem dL_refusesLamps_3 : decode cL_refusesLamps 3 = .ok (.iconst 2, 1) := by decide +kernel
theorem dL_refusesLamps_4 : decode cL_refusesLamps 4 = .ok (.if_icmp .ge 293, 3) := by decide +kernel
theorem dL_refusesLamps_7 : decode cL_refusesLamps 7 = .ok (.aload_n 0, 1) := by decide +kernel
theorem dL_refusesLamps_8 : decode cL_refusesLamps 8 = .ok (.iconst 0, 1) := by decide +kernel
theorem dL_refusesLamps_9 : decode cL_refusesLamps 9 = .ok (.iconst 0, 1) := by decide +kernel
theorem dL_refusesLamps_10 : decode cL_refusesLamps 10 = .ok (.iload_n 1, 1) := by decide +kernel
theorem dL_refusesLamps_11 : decode cL_refusesLamps 11 = .ok (.ifCond .ne 8, 3) := by decide +kernel
theorem dL_refusesLamps_14 : decode cL_refusesLamps 14 = .ok (.bipush 41, 2) := by decide +kernel
theorem dL_refusesLamps_16 : decode cL_refusesLamps 16 = .ok (.goto 5, 3) := by decide +kernel
theorem dL_refusesLamps_19 : decode cL_refusesLamps 19 = .ok (.bipush (-21), 2) := by decide +kernel
theorem dL_refusesLamps_21 : decode cL_refusesLamps 21 = .ok (.iconst 0, 1) := by decide +kernel
theorem dL_refusesLamps_22 : decode cL_refusesLamps 22 = .ok (.invokestatic 131, 3) := by decide +kernel
theorem dL_refusesLamps_25 : decode cL_refusesLamps 25 = .ok (.sipush (-3002), 3) := by decide +kernel
theorem dL_refusesLamps_28 : decode cL_refusesLamps 28 = .ok (.if_icmp .ne 127, 3) := by decide +kernel
theorem dL_refusesLamps_31 : decode cL_refusesLamps 31 = .ok (.aload_n 0, 1) := by decide +kernel
theorem dL_refusesLamps_32 : decode cL_refusesLamps 32 = .ok (.iconst 0, 1) := by decide +kernel
theorem dL_refusesLamps_33 : decode cL_refusesLamps 33 = .ok (.iconst 0, 1) := by decide +kernel
theorem dL_refusesLamps_34 : decode cL_refusesLamps 34 = .ok (.iconst 0, 1) := by decide +kernel
theorem dL_refusesLamps_35 : decode cL_refusesLamps 35 = .ok (.iload_n 1, 1) := by decide +kernel
theorem dL_refusesLamps_36 : decode cL_refusesLamps 36 = .ok (.ifCond .ne 8, 3) := by decide +kernel
theorem dL_refusesLamps_39 : decode cL_refusesLamps 39 = .ok (.bipush 41, 2) := by decide +kernel
theorem dL_refusesLamps_41 : decode cL_refusesLamps 41 = .ok (.goto 5, 3) := by decide +kernel
theorem dL_refusesLamps_44 : decode cL_refusesLamps 44 = .ok (.bipush (-21), 2) := by decide +kernel
theorem dL_refusesLamps_46 : decode cL_refusesLamps 46 = .ok (.invokestatic 131, 3) := by decide +kernel
theorem dL_refusesLamps_49 : decode cL_refusesLamps 49 = .ok (.sipush (-3002), 3) := by decide +kernel
theorem dL_refusesLamps_52 : decode cL_refusesLamps 52 = .ok (.if_icmp .ne 103, 3) := by decide +kernel
theorem dL_refusesLamps_55 : decode cL_refusesLamps 55 = .ok (.aload_n 0, 1) := by decide +kernel
theorem dL_refusesLamps_56 : decode cL_refusesLamps 56 = .ok (.iconst 0, 1) := by decide +kernel
theorem dL_refusesLamps_57 : decode cL_refusesLamps 57 = .ok (.iload_n 1, 1) := by decide +kernel
theorem dL_refusesLamps_58 : decode cL_refusesLamps 58 = .ok (.ifCond .ne 8, 3) := by decide +kernel
theorem dL_refusesLamps_61 : decode cL_refusesLamps 61 = .ok (.bipush 40, 2) := by decide +kernel
theorem dL_refusesLamps_63 : decode cL_refusesLamps 63 = .ok (.goto 5, 3) := by decide +kernel
theorem dL_refusesLamps_66 : decode cL_refusesLamps 66 = .ok (.bipush (-21), 2) := by decide +kernel
theorem dL_refusesLamps_68 : decode cL_refusesLamps 68 = .ok (.iconst 0, 1) := by decide +kernel
theorem dL_refusesLamps_69 : decode cL_refusesLamps 69 = .ok (.bipush 40, 2) := by decide +kernel
theorem dL_refusesLamps_71 : decode cL_refusesLamps 71 = .ok (.iconst 1, 1) := by decide +kernel
theorem dL_refusesLamps_72 : decode cL_refusesLamps 72 = .ok (.invokestatic 135, 3) := by decide +kernel
theorem dL_refusesLamps_75 : decode cL_refusesLamps 75 = .ok (.sipush (-3002), 3) := by decide +kernel
theorem dL_refusesLamps_78 : decode cL_refusesLamps 78 = .ok (.if_icmp .ne 77, 3) := by decide +kernel
theorem dL_refusesLamps_81 : decode cL_refusesLamps 81 = .ok (.aload_n 0, 1) := by decide +kernel
theorem dL_refusesLamps_82 : decode cL_refusesLamps 82 = .ok (.iconst 0, 1) := by decide +kernel
theorem dL_refusesLamps_83 : decode cL_refusesLamps 83 = .ok (.iconst 0, 1) := by decide +kernel
theorem dL_refusesLamps_84 : decode cL_refusesLamps 84 = .ok (.iload_n 1, 1) := by decide +kernel
theorem dL_refusesLamps_85 : decode cL_refusesLamps 85 = .ok (.ifCond .ne 8, 3) := by decide +kernel
theorem dL_refusesLamps_88 : decode cL_refusesLamps 88 = .ok (.bipush 40, 2) := by decide +kernel
theorem dL_refusesLamps_90 : decode cL_refusesLamps 90 = .ok (.goto 5, 3) := by decide +kernel
theorem dL_refusesLamps_93 : decode cL_refusesLamps 93 = .ok (.bipush (-21), 2) := by decide +kernel
theorem dL_refusesLamps_95 : decode cL_refusesLamps 95 = .ok (.iconst 1, 1) := by decide +kernel
theorem dL_refusesLamps_96 : decode cL_refusesLamps 96 = .ok (.bipush 40, 2) := by decide +kernel
theorem dL_refusesLamps_98 : decode cL_refusesLamps 98 = .ok (.invokestatic 135, 3) := by decide +kernel
theorem dL_refusesLamps_101 : decode cL_refusesLamps 101 = .ok (.sipush (-3002), 3) := by decide +kernel
theorem dL_refusesLamps_104 : decode cL_refusesLamps 104 = .ok (.if_icmp .ne 51, 3) := by decide +kernel
theorem dL_refusesLamps_107 : decode cL_refusesLamps 107 = .ok (.aload_n 0, 1) := by decide +kernel
theorem dL_refusesLamps_108 : decode cL_refusesLamps 108 = .ok (.iconst 0, 1) := by decide +kernel
theorem dL_refusesLamps_109 : decode cL_refusesLamps 109 = .ok (.iconst 0, 1) := by decide +kernel
theorem dL_refusesLamps_110 : decode cL_refusesLamps 110 = .ok (.iconst 0, 1) := by decide +kernel
theorem dL_refusesLamps_111 : decode cL_refusesLamps 111 = .ok (.iload_n 1, 1) := by decide +kernel
theorem dL_refusesLamps_112 : decode cL_refusesLamps 112 = .ok (.ifCond .ne 8, 3) := by decide +kernel
theorem dL_refusesLamps_115 : decode cL_refusesLamps 115 = .ok (.bipush 41, 2) := by decide +kernel
theorem dL_refusesLamps_117 : decode cL_refusesLamps 117 = .ok (.goto 4, 3) := by decide +kernel
theorem dL_refusesLamps_120 : decode cL_refusesLamps 120 = .ok (.iconst 0, 1) := by decide +kernel
theorem dL_refusesLamps_121 : decode cL_refusesLamps 121 = .ok (.iconst 1, 1) := by decide +kernel
theorem dL_refusesLamps_122 : decode cL_refusesLamps 122 = .ok (.invokestatic 135, 3) := by decide +kernel
theorem dL_refusesLamps_125 : decode cL_refusesLamps 125 = .ok (.sipush (-3002), 3) := by decide +kernel
theorem dL_refusesLamps_128 : decode cL_refusesLamps 128 = .ok (.if_icmp .ne 27, 3) := by decide +kernel
theorem dL_refusesLamps_131 : decode cL_refusesLamps 131 = .ok (.aload_n 0, 1) := by decide +kernel
theorem dL_refusesLamps_132 : decode cL_refusesLamps 132 = .ok (.iconst 0, 1) := by decide +kernel
theorem dL_refusesLamps_133 : decode cL_refusesLamps 133 = .ok (.iconst 0, 1) := by decide +kernel
theorem dL_refusesLamps_134 : decode cL_refusesLamps 134 = .ok (.iconst 0, 1) := by decide +kernel
theorem dL_refusesLamps_135 : decode cL_refusesLamps 135 = .ok (.iconst 1, 1) := by decide +kernel
theorem dL_refusesLamps_136 : decode cL_refusesLamps 136 = .ok (.iload_n 1, 1) := by decide +kernel
theorem dL_refusesLamps_137 : decode cL_refusesLamps 137 = .ok (.ifCond .ne 8, 3) := by decide +kernel
theorem dL_refusesLamps_140 : decode cL_refusesLamps 140 = .ok (.bipush 41, 2) := by decide +kernel
theorem dL_refusesLamps_142 : decode cL_refusesLamps 142 = .ok (.goto 4, 3) := by decide +kernel
theorem dL_refusesLamps_145 : decode cL_refusesLamps 145 = .ok (.iconst 0, 1) := by decide +kernel
theorem dL_refusesLamps_146 : decode cL_refusesLamps 146 = .ok (.invokestatic 135, 3) := by decide +kernel
theorem dL_refusesLamps_149 : decode cL_refusesLamps 149 = .ok (.sipush (-3002), 3) := by decide +kernel
theorem dL_refusesLamps_152 : decode cL_refusesLamps 152 = .ok (.if_icmp .eq 5, 3) := by decide +kernel
theorem dL_refusesLamps_155 : decode cL_refusesLamps 155 = .ok (.iconst 0, 1) := by decide +kernel
theorem dL_refusesLamps_156 : decode cL_refusesLamps 156 = .ok (.ireturn, 1) := by decide +kernel
theorem dL_refusesLamps_157 : decode cL_refusesLamps 157 = .ok (.aload_n 0, 1) := by decide +kernel
theorem dL_refusesLamps_158 : decode cL_refusesLamps 158 = .ok (.iconst 0, 1) := by decide +kernel
theorem dL_refusesLamps_159 : decode cL_refusesLamps 159 = .ok (.iload_n 1, 1) := by decide +kernel
theorem dL_refusesLamps_160 : decode cL_refusesLamps 160 = .ok (.ifCond .ne 7, 3) := by decide +kernel
theorem dL_refusesLamps_163 : decode cL_refusesLamps 163 = .ok (.iconst 3, 1) := by decide +kernel
theorem dL_refusesLamps_164 : decode cL_refusesLamps 164 = .ok (.goto 4, 3) := by decide +kernel
theorem dL_refusesLamps_167 : decode cL_refusesLamps 167 = .ok (.iconst (-1), 1) := by decide +kernel
theorem dL_refusesLamps_168 : decode cL_refusesLamps 168 = .ok (.iconst 0, 1) := by decide +kernel
theorem dL_refusesLamps_169 : decode cL_refusesLamps 169 = .ok (.invokestatic 139, 3) := by decide +kernel
theorem dL_refusesLamps_172 : decode cL_refusesLamps 172 = .ok (.sipush (-3002), 3) := by decide +kernel
theorem dL_refusesLamps_175 : decode cL_refusesLamps 175 = .ok (.if_icmp .ne 114, 3) := by decide +kernel
theorem dL_refusesLamps_178 : decode cL_refusesLamps 178 = .ok (.aload_n 0, 1) := by decide +kernel
theorem dL_refusesLamps_179 : decode cL_refusesLamps 179 = .ok (.iconst 0, 1) := by decide +kernel
theorem dL_refusesLamps_180 : decode cL_refusesLamps 180 = .ok (.iconst 0, 1) := by decide +kernel
theorem dL_refusesLamps_181 : decode cL_refusesLamps 181 = .ok (.iload_n 1, 1) := by decide +kernel
theorem dL_refusesLamps_182 : decode cL_refusesLamps 182 = .ok (.ifCond .ne 9, 3) := by decide +kernel
theorem dL_refusesLamps_185 : decode cL_refusesLamps 185 = .ok (.sipush 256, 3) := by decide +kernel
theorem dL_refusesLamps_188 : decode cL_refusesLamps 188 = .ok (.goto 4, 3) := by decide +kernel
theorem dL_refusesLamps_191 : decode cL_refusesLamps 191 = .ok (.iconst (-1), 1) := by decide +kernel
theorem dL_refusesLamps_192 : decode cL_refusesLamps 192 = .ok (.invokestatic 139, 3) := by decide +kernel
theorem dL_refusesLamps_195 : decode cL_refusesLamps 195 = .ok (.sipush (-3002), 3) := by decide +kernel
theorem dL_refusesLamps_198 : decode cL_refusesLamps 198 = .ok (.if_icmp .ne 91, 3) := by decide +kernel
theorem dL_refusesLamps_201 : decode cL_refusesLamps 201 = .ok (.aload_n 0, 1) := by decide +kernel
theorem dL_refusesLamps_202 : decode cL_refusesLamps 202 = .ok (.iconst 0, 1) := by decide +kernel
theorem dL_refusesLamps_203 : decode cL_refusesLamps 203 = .ok (.iconst 1, 1) := by decide +kernel
theorem dL_refusesLamps_204 : decode cL_refusesLamps 204 = .ok (.iload_n 1, 1) := by decide +kernel
theorem dL_refusesLamps_205 : decode cL_refusesLamps 205 = .ok (.ifCond .ne 9, 3) := by decide +kernel
theorem dL_refusesLamps_208 : decode cL_refusesLamps 208 = .ok (.sipush 256, 3) := by decide +kernel
theorem dL_refusesLamps_211 : decode cL_refusesLamps 211 = .ok (.goto 4, 3) := by decide +kernel
theorem dL_refusesLamps_214 : decode cL_refusesLamps 214 = .ok (.iconst (-1), 1) := by decide +kernel
theorem dL_refusesLamps_215 : decode cL_refusesLamps 215 = .ok (.invokestatic 139, 3) := by decide +kernel
theorem dL_refusesLamps_218 : decode cL_refusesLamps 218 = .ok (.sipush (-3002), 3) := by decide +kernel
theorem dL_refusesLamps_221 : decode cL_refusesLamps 221 = .ok (.if_icmp .ne 68, 3) := by decide +kernel
theorem dL_refusesLamps_224 : decode cL_refusesLamps 224 = .ok (.aload_n 0, 1) := by decide +kernel
theorem dL_refusesLamps_225 : decode cL_refusesLamps 225 = .ok (.iconst 0, 1) := by decide +kernel
theorem dL_refusesLamps_226 : decode cL_refusesLamps 226 = .ok (.iconst 2, 1) := by decide +kernel
theorem dL_refusesLamps_227 : decode cL_refusesLamps 227 = .ok (.iload_n 1, 1) := by decide +kernel
theorem dL_refusesLamps_228 : decode cL_refusesLamps 228 = .ok (.ifCond .ne 9, 3) := by decide +kernel
theorem dL_refusesLamps_231 : decode cL_refusesLamps 231 = .ok (.sipush 901, 3) := by decide +kernel
theorem dL_refusesLamps_234 : decode cL_refusesLamps 234 = .ok (.goto 4, 3) := by decide +kernel
theorem dL_refusesLamps_237 : decode cL_refusesLamps 237 = .ok (.iconst (-1), 1) := by decide +kernel
theorem dL_refusesLamps_238 : decode cL_refusesLamps 238 = .ok (.invokestatic 139, 3) := by decide +kernel
theorem dL_refusesLamps_241 : decode cL_refusesLamps 241 = .ok (.sipush (-3002), 3) := by decide +kernel
theorem dL_refusesLamps_244 : decode cL_refusesLamps 244 = .ok (.if_icmp .ne 45, 3) := by decide +kernel
theorem dL_refusesLamps_247 : decode cL_refusesLamps 247 = .ok (.aload_n 0, 1) := by decide +kernel
theorem dL_refusesLamps_248 : decode cL_refusesLamps 248 = .ok (.iconst 0, 1) := by decide +kernel
theorem dL_refusesLamps_249 : decode cL_refusesLamps 249 = .ok (.iload_n 1, 1) := by decide +kernel
theorem dL_refusesLamps_250 : decode cL_refusesLamps 250 = .ok (.ifCond .ne 8, 3) := by decide +kernel
theorem dL_refusesLamps_253 : decode cL_refusesLamps 253 = .ok (.bipush 12, 2) := by decide +kernel
theorem dL_refusesLamps_255 : decode cL_refusesLamps 255 = .ok (.goto 4, 3) := by decide +kernel
theorem dL_refusesLamps_258 : decode cL_refusesLamps 258 = .ok (.iconst (-1), 1) := by decide +kernel
theorem dL_refusesLamps_259 : decode cL_refusesLamps 259 = .ok (.invokestatic 98, 3) := by decide +kernel
theorem dL_refusesLamps_262 : decode cL_refusesLamps 262 = .ok (.sipush (-3002), 3) := by decide +kernel
theorem dL_refusesLamps_265 : decode cL_refusesLamps 265 = .ok (.if_icmp .ne 24, 3) := by decide +kernel
theorem dL_refusesLamps_268 : decode cL_refusesLamps 268 = .ok (.aload_n 0, 1) := by decide +kernel
theorem dL_refusesLamps_269 : decode cL_refusesLamps 269 = .ok (.iconst 0, 1) := by decide +kernel
theorem dL_refusesLamps_270 : decode cL_refusesLamps 270 = .ok (.iconst 0, 1) := by decide +kernel
theorem dL_refusesLamps_271 : decode cL_refusesLamps 271 = .ok (.iload_n 1, 1) := by decide +kernel
theorem dL_refusesLamps_272 : decode cL_refusesLamps 272 = .ok (.ifCond .ne 7, 3) := by decide +kernel
theorem dL_refusesLamps_275 : decode cL_refusesLamps 275 = .ok (.iconst 2, 1) := by decide +kernel
theorem dL_refusesLamps_276 : decode cL_refusesLamps 276 = .ok (.goto 4, 3) := by decide +kernel
theorem dL_refusesLamps_279 : decode cL_refusesLamps 279 = .ok (.iconst (-1), 1) := by decide +kernel
theorem dL_refusesLamps_280 : decode cL_refusesLamps 280 = .ok (.invokestatic 106, 3) := by decide +kernel
theorem dL_refusesLamps_283 : decode cL_refusesLamps 283 = .ok (.sipush (-3002), 3) := by decide +kernel
theorem dL_refusesLamps_286 : decode cL_refusesLamps 286 = .ok (.if_icmp .eq 5, 3) := by decide +kernel
theorem dL_refusesLamps_289 : decode cL_refusesLamps 289 = .ok (.iconst 0, 1) := by decide +kernel
theorem dL_refusesLamps_290 : decode cL_refusesLamps 290 = .ok (.ireturn, 1) := by decide +kernel
theorem dL_refusesLamps_291 : decode cL_refusesLamps 291 = .ok (.iinc 1 1, 3) := by decide +kernel
theorem dL_refusesLamps_294 : decode cL_refusesLamps 294 = .ok (.goto (-292), 3) := by decide +kernel
theorem dL_refusesLamps_297 : decode cL_refusesLamps 297 = .ok (.iconst 1, 1) := by decide +kernel
theorem dL_refusesLamps_298 : decode cL_refusesLamps 298 = .ok (.ireturn, 1) := by decide +kernel
theorem dL_refused_0 : decode cL_refused 0 = .ok (.aload_n 0, 1) := by decide +kernel
theorem dL_refused_1 : decode cL_refused 1 = .ok (.invokevirtual 127, 3) := by decide +kernel
theorem dL_refused_4 : decode cL_refused 4 = .ok (.lstore_n 1, 1) := by decide +kernel
theorem dL_refused_5 : decode cL_refused 5 = .ok (.aload_n 0, 1) := by decide +kernel
theorem dL_refused_6 : decode cL_refused 6 = .ok (.invokestatic 158, 3) := by decide +kernel
theorem dL_refused_9 : decode cL_refused 9 = .ok (.ifCond .eq 18, 3) := by decide +kernel
theorem dL_refused_12 : decode cL_refused 12 = .ok (.aload_n 0, 1) := by decide +kernel
theorem dL_refused_13 : decode cL_refused 13 = .ok (.iconst 4, 1) := by decide +kernel
theorem dL_refused_14 : decode cL_refused 14 = .ok (.invokestatic 92, 3) := by decide +kernel
theorem dL_refused_17 : decode cL_refused 17 = .ok (.ifCond .le 12, 3) := by decide +kernel
theorem dL_refused_20 : decode cL_refused 20 = .ok (.aload_n 0, 1) := by decide +kernel
theorem dL_refused_21 : decode cL_refused 21 = .ok (.invokestatic 162, 3) := by decide +kernel
theorem dL_refused_24 : decode cL_refused 24 = .ok (.ifCond .ne 5, 3) := by decide +kernel
theorem dL_refused_27 : decode cL_refused 27 = .ok (.iconst 0, 1) := by decide +kernel
theorem dL_refused_28 : decode cL_refused 28 = .ok (.ireturn, 1) := by decide +kernel
theorem dL_refused_29 : decode cL_refused 29 = .ok (.iconst 0, 1) := by decide +kernel
theorem dL_refused_30 : decode cL_refused 30 = .ok (.istore_n 3, 1) := by decide +kernel
theorem dL_refused_31 : decode cL_refused 31 = .ok (.iload_n 3, 1) := by decide +kernel
theorem dL_refused_32 : decode cL_refused 32 = .ok (.iconst 2, 1) := by decide +kernel
theorem dL_refused_33 : decode cL_refused 33 = .ok (.if_icmp .ge 313, 3) := by decide +kernel
theorem dL_refused_36 : decode cL_refused 36 = .ok (.aload_n 0, 1) := by decide +kernel
theorem dL_refused_37 : decode cL_refused 37 = .ok (.iload_n 3, 1) := by decide +kernel
theorem dL_refused_38 : decode cL_refused 38 = .ok (.ifCond .ne 8, 3) := by decide +kernel
theorem dL_refused_41 : decode cL_refused 41 = .ok (.bipush 25, 2) := by decide +kernel
theorem dL_refused_43 : decode cL_refused 43 = .ok (.goto 4, 3) := by decide +kernel
theorem dL_refused_46 : decode cL_refused 46 = .ok (.iconst 0, 1) := by decide +kernel
theorem dL_refused_47 : decode cL_refused 47 = .ok (.iconst 1, 1) := by decide +kernel
theorem dL_refused_48 : decode cL_refused 48 = .ok (.invokestatic 165, 3) := by decide +kernel
theorem dL_refused_51 : decode cL_refused 51 = .ok (.sipush (-3002), 3) := by decide +kernel
theorem dL_refused_54 : decode cL_refused 54 = .ok (.if_icmp .ne 284, 3) := by decide +kernel
theorem dL_refused_57 : decode cL_refused 57 = .ok (.aload_n 0, 1) := by decide +kernel
theorem dL_refused_58 : decode cL_refused 58 = .ok (.iconst 1, 1) := by decide +kernel
theorem dL_refused_59 : decode cL_refused 59 = .ok (.iload_n 3, 1) := by decide +kernel
theorem dL_refused_60 : decode cL_refused 60 = .ok (.ifCond .ne 8, 3) := by decide +kernel
theorem dL_refused_63 : decode cL_refused 63 = .ok (.bipush 17, 2) := by decide +kernel
theorem dL_refused_65 : decode cL_refused 65 = .ok (.goto 4, 3) := by decide +kernel
theorem dL_refused_68 : decode cL_refused 68 = .ok (.iconst 0, 1) := by decide +kernel
theorem dL_refused_69 : decode cL_refused 69 = .ok (.invokestatic 165, 3) := by decide +kernel
theorem dL_refused_72 : decode cL_refused 72 = .ok (.sipush (-3002), 3) := by decide +kernel
theorem dL_refused_75 : decode cL_refused 75 = .ok (.if_icmp .ne 263, 3) := by decide +kernel
theorem dL_refused_78 : decode cL_refused 78 = .ok (.aload_n 0, 1) := by decide +kernel
theorem dL_refused_79 : decode cL_refused 79 = .ok (.iconst 0, 1) := by decide +kernel
theorem dL_refused_80 : decode cL_refused 80 = .ok (.iconst 0, 1) := by decide +kernel
theorem dL_refused_81 : decode cL_refused 81 = .ok (.iconst 0, 1) := by decide +kernel
theorem dL_refused_82 : decode cL_refused 82 = .ok (.iconst 0, 1) := by decide +kernel
theorem dL_refused_83 : decode cL_refused 83 = .ok (.iload_n 3, 1) := by decide +kernel
theorem dL_refused_84 : decode cL_refused 84 = .ok (.ifCond .ne 9, 3) := by decide +kernel
theorem dL_refused_87 : decode cL_refused 87 = .ok (.sipush 256, 3) := by decide +kernel
theorem dL_refused_90 : decode cL_refused 90 = .ok (.goto 4, 3) := by decide +kernel
theorem dL_refused_93 : decode cL_refused 93 = .ok (.iconst (-1), 1) := by decide +kernel
theorem dL_refused_94 : decode cL_refused 94 = .ok (.invokestatic 155, 3) := by decide +kernel
theorem dL_refused_97 : decode cL_refused 97 = .ok (.sipush (-3002), 3) := by decide +kernel
theorem dL_refused_100 : decode cL_refused 100 = .ok (.if_icmp .ne 238, 3) := by decide +kernel
theorem dL_refused_103 : decode cL_refused 103 = .ok (.aload_n 0, 1) := by decide +kernel
theorem dL_refused_104 : decode cL_refused 104 = .ok (.iload_n 3, 1) := by decide +kernel
theorem dL_refused_105 : decode cL_refused 105 = .ok (.ifCond .ne 9, 3) := by decide +kernel
theorem dL_refused_108 : decode cL_refused 108 = .ok (.sipush 256, 3) := by decide +kernel
theorem dL_refused_111 : decode cL_refused 111 = .ok (.goto 4, 3) := by decide +kernel
theorem dL_refused_114 : decode cL_refused 114 = .ok (.iconst (-1), 1) := by decide +kernel
theorem dL_refused_115 : decode cL_refused 115 = .ok (.iconst 0, 1) := by decide +kernel
theorem dL_refused_116 : decode cL_refused 116 = .ok (.invokestatic 168, 3) := by decide +kernel
theorem dL_refused_119 : decode cL_refused 119 = .ok (.sipush (-3002), 3) := by decide +kernel
theorem dL_refused_122 : decode cL_refused 122 = .ok (.if_icmp .ne 216, 3) := by decide +kernel
theorem dL_refused_125 : decode cL_refused 125 = .ok (.aload_n 0, 1) := by decide +kernel
theorem dL_refused_126 : decode cL_refused 126 = .ok (.iconst 0, 1) := by decide +kernel
theorem dL_refused_127 : decode cL_refused 127 = .ok (.iload_n 3, 1) := by decide +kernel
theorem dL_refused_128 : decode cL_refused 128 = .ok (.ifCond .ne 9, 3) := by decide +kernel
theorem dL_refused_131 : decode cL_refused 131 = .ok (.sipush 256, 3) := by decide +kernel
theorem dL_refused_134 : decode cL_refused 134 = .ok (.goto 4, 3) := by decide +kernel
theorem dL_refused_137 : decode cL_refused 137 = .ok (.iconst (-1), 1) := by decide +kernel
theorem dL_refused_138 : decode cL_refused 138 = .ok (.invokestatic 168, 3) := by decide +kernel
theorem dL_refused_141 : decode cL_refused 141 = .ok (.sipush (-3002), 3) := by decide +kernel
theorem dL_refused_144 : decode cL_refused 144 = .ok (.if_icmp .ne 194, 3) := by decide +kernel
theorem dL_refused_147 : decode cL_refused 147 = .ok (.aload_n 0, 1) := by decide +kernel
theorem dL_refused_148 : decode cL_refused 148 = .ok (.iload_n 3, 1) := by decide +kernel
theorem dL_refused_149 : decode cL_refused 149 = .ok (.ifCond .ne 8, 3) := by decide +kernel
theorem dL_refused_152 : decode cL_refused 152 = .ok (.bipush 11, 2) := by decide +kernel
theorem dL_refused_154 : decode cL_refused 154 = .ok (.goto 5, 3) := by decide +kernel
theorem dL_refused_157 : decode cL_refused 157 = .ok (.bipush (-11), 2) := by decide +kernel
theorem dL_refused_159 : decode cL_refused 159 = .ok (.iconst 0, 1) := by decide +kernel
theorem dL_refused_160 : decode cL_refused 160 = .ok (.invokestatic 171, 3) := by decide +kernel
theorem dL_refused_163 : decode cL_refused 163 = .ok (.sipush (-3002), 3) := by decide +kernel
theorem dL_refused_166 : decode cL_refused 166 = .ok (.if_icmp .ne 172, 3) := by decide +kernel
theorem dL_refused_169 : decode cL_refused 169 = .ok (.aload_n 0, 1) := by decide +kernel
theorem dL_refused_170 : decode cL_refused 170 = .ok (.iconst 0, 1) := by decide +kernel
theorem dL_refused_171 : decode cL_refused 171 = .ok (.iload_n 3, 1) := by decide +kernel
theorem dL_refused_172 : decode cL_refused 172 = .ok (.ifCond .ne 8, 3) := by decide +kernel
theorem dL_refused_175 : decode cL_refused 175 = .ok (.bipush 11, 2) := by decide +kernel
theorem dL_refused_177 : decode cL_refused 177 = .ok (.goto 5, 3) := by decide +kernel
theorem dL_refused_180 : decode cL_refused 180 = .ok (.bipush (-11), 2) := by decide +kernel
theorem dL_refused_182 : decode cL_refused 182 = .ok (.invokestatic 171, 3) := by decide +kernel
theorem dL_refused_185 : decode cL_refused 185 = .ok (.sipush (-3002), 3) := by decide +kernel
theorem dL_refused_188 : decode cL_refused 188 = .ok (.if_icmp .ne 150, 3) := by decide +kernel
theorem dL_refused_191 : decode cL_refused 191 = .ok (.aload_n 0, 1) := by decide +kernel
theorem dL_refused_192 : decode cL_refused 192 = .ok (.iload_n 3, 1) := by decide +kernel
theorem dL_refused_193 : decode cL_refused 193 = .ok (.ifCond .ne 9, 3) := by decide +kernel
theorem dL_refused_196 : decode cL_refused 196 = .ok (.sipush 10000, 3) := by decide +kernel
theorem dL_refused_199 : decode cL_refused 199 = .ok (.goto 4, 3) := by decide +kernel
theorem dL_refused_202 : decode cL_refused 202 = .ok (.iconst 0, 1) := by decide +kernel
theorem dL_refused_203 : decode cL_refused 203 = .ok (.invokestatic 174, 3) := by decide +kernel
theorem dL_refused_206 : decode cL_refused 206 = .ok (.sipush (-3002), 3) := by decide +kernel
theorem dL_refused_209 : decode cL_refused 209 = .ok (.if_icmp .ne 129, 3) := by decide +kernel
theorem dL_refused_212 : decode cL_refused 212 = .ok (.aload_n 0, 1) := by decide +kernel
theorem dL_refused_213 : decode cL_refused 213 = .ok (.iconst 0, 1) := by decide +kernel
theorem dL_refused_214 : decode cL_refused 214 = .ok (.iconst 0, 1) := by decide +kernel
theorem dL_refused_215 : decode cL_refused 215 = .ok (.iload_n 3, 1) := by decide +kernel
theorem dL_refused_216 : decode cL_refused 216 = .ok (.ifCond .ne 8, 3) := by decide +kernel
theorem dL_refused_219 : decode cL_refused 219 = .ok (.bipush 6, 2) := by decide +kernel
theorem dL_refused_221 : decode cL_refused 221 = .ok (.goto 4, 3) := by decide +kernel
theorem dL_refused_224 : decode cL_refused 224 = .ok (.iconst (-1), 1) := by decide +kernel
theorem dL_refused_225 : decode cL_refused 225 = .ok (.invokestatic 110, 3) := by decide +kernel
theorem dL_refused_228 : decode cL_refused 228 = .ok (.sipush (-3002), 3) := by decide +kernel
theorem dL_refused_231 : decode cL_refused 231 = .ok (.if_icmp .ne 107, 3) := by decide +kernel
theorem dL_refused_234 : decode cL_refused 234 = .ok (.aload_n 0, 1) := by decide +kernel
theorem dL_refused_235 : decode cL_refused 235 = .ok (.iload_n 3, 1) := by decide +kernel
theorem dL_refused_236 : decode cL_refused 236 = .ok (.ifCond .ne 8, 3) := by decide +kernel
theorem dL_refused_239 : decode cL_refused 239 = .ok (.bipush 15, 2) := by decide +kernel
theorem dL_refused_241 : decode cL_refused 241 = .ok (.goto 4, 3) := by decide +kernel
theorem dL_refused_244 : decode cL_refused 244 = .ok (.iconst (-1), 1) := by decide +kernel
theorem dL_refused_245 : decode cL_refused 245 = .ok (.invokestatic 92, 3) := by decide +kernel
theorem dL_refused_248 : decode cL_refused 248 = .ok (.sipush (-3002), 3) := by decide +kernel
theorem dL_refused_251 : decode cL_refused 251 = .ok (.if_icmp .ne 87, 3) := by decide +kernel
theorem dL_refused_254 : decode cL_refused 254 = .ok (.aload_n 0, 1) := by decide +kernel
theorem dL_refused_255 : decode cL_refused 255 = .ok (.iload_n 3, 1) := by decide +kernel
theorem dL_refused_256 : decode cL_refused 256 = .ok (.ifCond .ne 8, 3) := by decide +kernel
theorem dL_refused_259 : decode cL_refused 259 = .ok (.bipush 11, 2) := by decide +kernel
theorem dL_refused_261 : decode cL_refused 261 = .ok (.goto 5, 3) := by decide +kernel
theorem dL_refused_264 : decode cL_refused 264 = .ok (.bipush (-11), 2) := by decide +kernel
theorem dL_refused_266 : decode cL_refused 266 = .ok (.iconst 0, 1) := by decide +kernel
theorem dL_refused_267 : decode cL_refused 267 = .ok (.invokestatic 177, 3) := by decide +kernel
theorem dL_refused_270 : decode cL_refused 270 = .ok (.sipush (-3002), 3) := by decide +kernel
theorem dL_refused_273 : decode cL_refused 273 = .ok (.if_icmp .ne 65, 3) := by decide +kernel
theorem dL_refused_276 : decode cL_refused 276 = .ok (.aload_n 0, 1) := by decide +kernel
theorem dL_refused_277 : decode cL_refused 277 = .ok (.iconst 0, 1) := by decide +kernel
theorem dL_refused_278 : decode cL_refused 278 = .ok (.iload_n 3, 1) := by decide +kernel
theorem dL_refused_279 : decode cL_refused 279 = .ok (.ifCond .ne 8, 3) := by decide +kernel
theorem dL_refused_282 : decode cL_refused 282 = .ok (.bipush 11, 2) := by decide +kernel
theorem dL_refused_284 : decode cL_refused 284 = .ok (.goto 5, 3) := by decide +kernel
theorem dL_refused_287 : decode cL_refused 287 = .ok (.bipush (-11), 2) := by decide +kernel
theorem dL_refused_289 : decode cL_refused 289 = .ok (.invokestatic 177, 3) := by decide +kernel
theorem dL_refused_292 : decode cL_refused 292 = .ok (.sipush (-3002), 3) := by decide +kernel
theorem dL_refused_295 : decode cL_refused 295 = .ok (.if_icmp .ne 43, 3) := by decide +kernel
theorem dL_refused_298 : decode cL_refused 298 = .ok (.aload_n 0, 1) := by decide +kernel
theorem dL_refused_299 : decode cL_refused 299 = .ok (.iload_n 3, 1) := by decide +kernel
theorem dL_refused_300 : decode cL_refused 300 = .ok (.ifCond .ne 7, 3) := by decide +kernel
theorem dL_refused_303 : decode cL_refused 303 = .ok (.iconst 4, 1) := by decide +kernel
theorem dL_refused_304 : decode cL_refused 304 = .ok (.goto 4, 3) := by decide +kernel
theorem dL_refused_307 : decode cL_refused 307 = .ok (.iconst (-1), 1) := by decide +kernel
theorem dL_refused_308 : decode cL_refused 308 = .ok (.invokestatic 180, 3) := by decide +kernel
theorem dL_refused_311 : decode cL_refused 311 = .ok (.sipush (-3002), 3) := by decide +kernel
theorem dL_refused_314 : decode cL_refused 314 = .ok (.if_icmp .ne 24, 3) := by decide +kernel
theorem dL_refused_317 : decode cL_refused 317 = .ok (.aload_n 0, 1) := by decide +kernel
theorem dL_refused_318 : decode cL_refused 318 = .ok (.iload_n 3, 1) := by decide +kernel
theorem dL_refused_319 : decode cL_refused 319 = .ok (.ifCond .ne 9, 3) := by decide +kernel
theorem dL_refused_322 : decode cL_refused 322 = .ok (.sipush 128, 3) := by decide +kernel
theorem dL_refused_325 : decode cL_refused 325 = .ok (.goto 4, 3) := by decide +kernel
theorem dL_refused_328 : decode cL_refused 328 = .ok (.iconst (-1), 1) := by decide +kernel
theorem dL_refused_329 : decode cL_refused 329 = .ok (.invokestatic 183, 3) := by decide +kernel
theorem dL_refused_332 : decode cL_refused 332 = .ok (.sipush (-3002), 3) := by decide +kernel
theorem dL_refused_335 : decode cL_refused 335 = .ok (.if_icmp .eq 5, 3) := by decide +kernel
theorem dL_refused_338 : decode cL_refused 338 = .ok (.iconst 0, 1) := by decide +kernel
theorem dL_refused_339 : decode cL_refused 339 = .ok (.ireturn, 1) := by decide +kernel
theorem dL_refused_340 : decode cL_refused 340 = .ok (.iinc 3 1, 3) := by decide +kernel
theorem dL_refused_343 : decode cL_refused 343 = .ok (.goto (-312), 3) := by decide +kernel
theorem dL_refused_346 : decode cL_refused 346 = .ok (.aload_n 0, 1) := by decide +kernel
theorem dL_refused_347 : decode cL_refused 347 = .ok (.iconst 0, 1) := by decide +kernel
theorem dL_refused_348 : decode cL_refused 348 = .ok (.invokestatic 92, 3) := by decide +kernel
theorem dL_refused_351 : decode cL_refused 351 = .ok (.iconst 1, 1) := by decide +kernel
theorem dL_refused_352 : decode cL_refused 352 = .ok (.if_icmp .le 18, 3) := by decide +kernel
theorem dL_refused_355 : decode cL_refused 355 = .ok (.aload_n 0, 1) := by decide +kernel
theorem dL_refused_356 : decode cL_refused 356 = .ok (.iconst 1, 1) := by decide +kernel
theorem dL_refused_357 : decode cL_refused 357 = .ok (.iconst 0, 1) := by decide +kernel
theorem dL_refused_358 : decode cL_refused 358 = .ok (.iconst 0, 1) := by decide +kernel
theorem dL_refused_359 : decode cL_refused 359 = .ok (.iconst 0, 1) := by decide +kernel
theorem dL_refused_360 : decode cL_refused 360 = .ok (.iconst 0, 1) := by decide +kernel
theorem dL_refused_361 : decode cL_refused 361 = .ok (.invokestatic 155, 3) := by decide +kernel
theorem dL_refused_364 : decode cL_refused 364 = .ok (.sipush (-3002), 3) := by decide +kernel
theorem dL_refused_367 : decode cL_refused 367 = .ok (.if_icmp .ne 27, 3) := by decide +kernel
theorem dL_refused_370 : decode cL_refused 370 = .ok (.aload_n 0, 1) := by decide +kernel
theorem dL_refused_371 : decode cL_refused 371 = .ok (.iconst 1, 1) := by decide +kernel
theorem dL_refused_372 : decode cL_refused 372 = .ok (.invokestatic 92, 3) := by decide +kernel
theorem dL_refused_375 : decode cL_refused 375 = .ok (.iconst 1, 1) := by decide +kernel
theorem dL_refused_376 : decode cL_refused 376 = .ok (.if_icmp .le 20, 3) := by decide +kernel
theorem dL_refused_379 : decode cL_refused 379 = .ok (.aload_n 0, 1) := by decide +kernel
theorem dL_refused_380 : decode cL_refused 380 = .ok (.iconst 0, 1) := by decide +kernel
theorem dL_refused_381 : decode cL_refused 381 = .ok (.iconst 1, 1) := by decide +kernel
theorem dL_refused_382 : decode cL_refused 382 = .ok (.iconst 0, 1) := by decide +kernel
theorem dL_refused_383 : decode cL_refused 383 = .ok (.iconst 0, 1) := by decide +kernel
theorem dL_refused_384 : decode cL_refused 384 = .ok (.iconst 0, 1) := by decide +kernel
theorem dL_refused_385 : decode cL_refused 385 = .ok (.invokestatic 155, 3) := by decide +kernel
theorem dL_refused_388 : decode cL_refused 388 = .ok (.sipush (-3002), 3) := by decide +kernel
theorem dL_refused_391 : decode cL_refused 391 = .ok (.if_icmp .eq 5, 3) := by decide +kernel
theorem dL_refused_394 : decode cL_refused 394 = .ok (.iconst 0, 1) := by decide +kernel
theorem dL_refused_395 : decode cL_refused 395 = .ok (.ireturn, 1) := by decide +kernel
theorem dL_refused_396 : decode cL_refused 396 = .ok (.aload_n 0, 1) := by decide +kernel
theorem dL_refused_397 : decode cL_refused 397 = .ok (.iconst (-1), 1) := by decide +kernel
theorem dL_refused_398 : decode cL_refused 398 = .ok (.invokestatic 186, 3) := by decide +kernel
theorem dL_refused_401 : decode cL_refused 401 = .ok (.sipush (-3002), 3) := by decide +kernel
theorem dL_refused_404 : decode cL_refused 404 = .ok (.if_icmp .ne 16, 3) := by decide +kernel
theorem dL_refused_407 : decode cL_refused 407 = .ok (.aload_n 0, 1) := by decide +kernel
theorem dL_refused_408 : decode cL_refused 408 = .ok (.invokevirtual 127, 3) := by decide +kernel
theorem dL_refused_411 : decode cL_refused 411 = .ok (.lload_n 1, 1) := by decide +kernel
theorem dL_refused_412 : decode cL_refused 412 = .ok (.lcmp, 1) := by decide +kernel
theorem dL_refused_413 : decode cL_refused 413 = .ok (.ifCond .ne 7, 3) := by decide +kernel
theorem dL_refused_416 : decode cL_refused 416 = .ok (.iconst 1, 1) := by decide +kernel
theorem dL_refused_417 : decode cL_refused 417 = .ok (.goto 4, 3) := by decide +kernel
theorem dL_refused_420 : decode cL_refused 420 = .ok (.iconst 0, 1) := by decide +kernel
theorem dL_refused_421 : decode cL_refused 421 = .ok (.ireturn, 1) := by decide +kernel
theorem dL_texts_0 : decode cL_texts 0 = .ok (.lconst 0, 1) := by decide +kernel
theorem dL_texts_1 : decode cL_texts 1 = .ok (.lconst 0, 1) := by decide +kernel
theorem dL_texts_2 : decode cL_texts 2 = .ok (.lconst 0, 1) := by decide +kernel
theorem dL_texts_3 : decode cL_texts 3 = .ok (.invokestatic 203, 3) := by decide +kernel
theorem dL_texts_6 : decode cL_texts 6 = .ok (.ifCond .ne 40, 3) := by decide +kernel
theorem dL_texts_9 : decode cL_texts 9 = .ok (.ldc2_w 207, 3) := by decide +kernel
theorem dL_texts_12 : decode cL_texts 12 = .ok (.lconst 0, 1) := by decide +kernel
theorem dL_texts_13 : decode cL_texts 13 = .ok (.lconst 0, 1) := by decide +kernel
theorem dL_texts_14 : decode cL_texts 14 = .ok (.invokestatic 203, 3) := by decide +kernel
theorem dL_texts_17 : decode cL_texts 17 = .ok (.ifCond .ne 29, 3) := by decide +kernel
theorem dL_texts_20 : decode cL_texts 20 = .ok (.ldc2_w 209, 3) := by decide +kernel
theorem dL_texts_23 : decode cL_texts 23 = .ok (.lconst 0, 1) := by decide +kernel
theorem dL_texts_24 : decode cL_texts 24 = .ok (.lconst 0, 1) := by decide +kernel
theorem dL_texts_25 : decode cL_texts 25 = .ok (.invokestatic 203, 3) := by decide +kernel
theorem dL_texts_28 : decode cL_texts 28 = .ok (.iconst 1, 1) := by decide +kernel
theorem dL_texts_29 : decode cL_texts 29 = .ok (.if_icmp .ne 17, 3) := by decide +kernel
theorem dL_texts_32 : decode cL_texts 32 = .ok (.ldc2_w 211, 3) := by decide +kernel
theorem dL_texts_35 : decode cL_texts 35 = .ok (.ldc2_w 213, 3) := by decide +kernel
theorem dL_texts_38 : decode cL_texts 38 = .ok (.lconst 0, 1) := by decide +kernel
theorem dL_texts_39 : decode cL_texts 39 = .ok (.invokestatic 203, 3) := by decide +kernel
theorem dL_texts_42 : decode cL_texts 42 = .ok (.iconst 1, 1) := by decide +kernel
theorem dL_texts_43 : decode cL_texts 43 = .ok (.if_icmp .eq 5, 3) := by decide +kernel
theorem dL_texts_46 : decode cL_texts 46 = .ok (.iconst 0, 1) := by decide +kernel
theorem dL_texts_47 : decode cL_texts 47 = .ok (.ireturn, 1) := by decide +kernel
theorem dL_texts_48 : decode cL_texts 48 = .ok (.ldc2_w 215, 3) := by decide +kernel
theorem dL_texts_51 : decode cL_texts 51 = .ok (.lconst 0, 1) := by decide +kernel
theorem dL_texts_52 : decode cL_texts 52 = .ok (.lconst 0, 1) := by decide +kernel
theorem dL_texts_53 : decode cL_texts 53 = .ok (.invokestatic 203, 3) := by decide +kernel
theorem dL_texts_56 : decode cL_texts 56 = .ok (.bipush (-14), 2) := by decide +kernel
theorem dL_texts_58 : decode cL_texts 58 = .ok (.if_icmp .ne 42, 3) := by decide +kernel
theorem dL_texts_61 : decode cL_texts 61 = .ok (.ldc2_w 217, 3) := by decide +kernel
theorem dL_texts_64 : decode cL_texts 64 = .ok (.lconst 0, 1) := by decide +kernel
theorem dL_texts_65 : decode cL_texts 65 = .ok (.lconst 0, 1) := by decide +kernel
theorem dL_texts_66 : decode cL_texts 66 = .ok (.invokestatic 203, 3) := by decide +kernel
theorem dL_texts_69 : decode cL_texts 69 = .ok (.bipush (-16), 2) := by decide +kernel
theorem dL_texts_71 : decode cL_texts 71 = .ok (.if_icmp .ne 29, 3) := by decide +kernel
theorem dL_texts_74 : decode cL_texts 74 = .ok (.ldc2_w 219, 3) := by decide +kernel
theorem dL_texts_77 : decode cL_texts 77 = .ok (.lconst 0, 1) := by decide +kernel
theorem dL_texts_78 : decode cL_texts 78 = .ok (.lconst 0, 1) := by decide +kernel
theorem dL_texts_79 : decode cL_texts 79 = .ok (.invokestatic 203, 3) := by decide +kernel
theorem dL_texts_82 : decode cL_texts 82 = .ok (.bipush (-14), 2) := by decide +kernel
theorem dL_texts_84 : decode cL_texts 84 = .ok (.if_icmp .ne 16, 3) := by decide +kernel
theorem dL_texts_87 : decode cL_texts 87 = .ok (.ldc2_w 221, 3) := by decide +kernel
theorem dL_texts_90 : decode cL_texts 90 = .ok (.lconst 0, 1) := by decide +kernel
theorem dL_texts_91 : decode cL_texts 91 = .ok (.lconst 0, 1) := by decide +kernel
theorem dL_texts_92 : decode cL_texts 92 = .ok (.invokestatic 203, 3) := by decide +kernel
theorem dL_texts_95 : decode cL_texts 95 = .ok (.bipush (-10), 2) := by decide +kernel
theorem dL_texts_97 : decode cL_texts 97 = .ok (.if_icmp .eq 5, 3) := by decide +kernel
theorem dL_texts_100 : decode cL_texts 100 = .ok (.iconst 0, 1) := by decide +kernel
theorem dL_texts_101 : decode cL_texts 101 = .ok (.ireturn, 1) := by decide +kernel
theorem dL_texts_102 : decode cL_texts 102 = .ok (.ldc2_w 223, 3) := by decide +kernel
theorem dL_texts_105 : decode cL_texts 105 = .ok (.lconst 0, 1) := by decide +kernel
theorem dL_texts_106 : decode cL_texts 106 = .ok (.lconst 0, 1) := by decide +kernel
theorem dL_texts_107 : decode cL_texts 107 = .ok (.invokestatic 203, 3) := by decide +kernel
theorem dL_texts_110 : decode cL_texts 110 = .ok (.bipush (-10), 2) := by decide +kernel
theorem dL_texts_112 : decode cL_texts 112 = .ok (.if_icmp .ne 42, 3) := by decide +kernel
theorem dL_texts_115 : decode cL_texts 115 = .ok (.ldc2_w 225, 3) := by decide +kernel
theorem dL_texts_118 : decode cL_texts 118 = .ok (.lconst 0, 1) := by decide +kernel
theorem dL_texts_119 : decode cL_texts 119 = .ok (.lconst 0, 1) := by decide +kernel
theorem dL_texts_120 : decode cL_texts 120 = .ok (.invokestatic 203, 3) := by decide +kernel
theorem dL_texts_123 : decode cL_texts 123 = .ok (.bipush (-15), 2) := by decide +kernel
theorem dL_texts_125 : decode cL_texts 125 = .ok (.if_icmp .ne 29, 3) := by decide +kernel
theorem dL_texts_128 : decode cL_texts 128 = .ok (.ldc2_w 227, 3) := by decide +kernel
theorem dL_texts_131 : decode cL_texts 131 = .ok (.ldc2_w 229, 3) := by decide +kernel
theorem dL_texts_134 : decode cL_texts 134 = .ok (.lconst 0, 1) := by decide +kernel
theorem dL_texts_135 : decode cL_texts 135 = .ok (.invokestatic 203, 3) := by decide +kernel
theorem dL_texts_138 : decode cL_texts 138 = .ok (.bipush (-19), 2) := by decide +kernel
theorem dL_texts_140 : decode cL_texts 140 = .ok (.if_icmp .ne 14, 3) := by decide +kernel
theorem dL_texts_143 : decode cL_texts 143 = .ok (.ldc2_w 231, 3) := by decide +kernel
theorem dL_texts_146 : decode cL_texts 146 = .ok (.lconst 0, 1) := by decide +kernel
theorem dL_texts_147 : decode cL_texts 147 = .ok (.lconst 0, 1) := by decide +kernel
theorem dL_texts_148 : decode cL_texts 148 = .ok (.invokestatic 203, 3) := by decide +kernel
theorem dL_texts_151 : decode cL_texts 151 = .ok (.ifCond .eq 5, 3) := by decide +kernel
theorem dL_texts_154 : decode cL_texts 154 = .ok (.iconst 0, 1) := by decide +kernel
theorem dL_texts_155 : decode cL_texts 155 = .ok (.ireturn, 1) := by decide +kernel
theorem dL_texts_156 : decode cL_texts 156 = .ok (.ldc2_w 233, 3) := by decide +kernel
theorem dL_texts_159 : decode cL_texts 159 = .ok (.ldc2_w 235, 3) := by decide +kernel
theorem dL_texts_162 : decode cL_texts 162 = .ok (.lconst 0, 1) := by decide +kernel
theorem dL_texts_163 : decode cL_texts 163 = .ok (.invokestatic 203, 3) := by decide +kernel
theorem dL_texts_166 : decode cL_texts 166 = .ok (.bipush (-16), 2) := by decide +kernel
theorem dL_texts_168 : decode cL_texts 168 = .ok (.if_icmp .ne 44, 3) := by decide +kernel
theorem dL_texts_171 : decode cL_texts 171 = .ok (.ldc2_w 237, 3) := by decide +kernel
theorem dL_texts_174 : decode cL_texts 174 = .ok (.lconst 0, 1) := by decide +kernel
theorem dL_texts_175 : decode cL_texts 175 = .ok (.lconst 0, 1) := by decide +kernel
theorem dL_texts_176 : decode cL_texts 176 = .ok (.invokestatic 203, 3) := by decide +kernel
theorem dL_texts_179 : decode cL_texts 179 = .ok (.bipush (-16), 2) := by decide +kernel
theorem dL_texts_181 : decode cL_texts 181 = .ok (.if_icmp .ne 31, 3) := by decide +kernel
theorem dL_texts_184 : decode cL_texts 184 = .ok (.ldc2_w 239, 3) := by decide +kernel
theorem dL_texts_187 : decode cL_texts 187 = .ok (.ldc2_w 235, 3) := by decide +kernel
theorem dL_texts_190 : decode cL_texts 190 = .ok (.lconst 0, 1) := by decide +kernel
theorem dL_texts_191 : decode cL_texts 191 = .ok (.invokestatic 203, 3) := by decide +kernel
theorem dL_texts_194 : decode cL_texts 194 = .ok (.bipush (-17), 2) := by decide +kernel
theorem dL_texts_196 : decode cL_texts 196 = .ok (.if_icmp .ne 16, 3) := by decide +kernel
theorem dL_texts_199 : decode cL_texts 199 = .ok (.ldc2_w 241, 3) := by decide +kernel
theorem dL_texts_202 : decode cL_texts 202 = .ok (.lconst 0, 1) := by decide +kernel
theorem dL_texts_203 : decode cL_texts 203 = .ok (.lconst 0, 1) := by decide +kernel
theorem dL_texts_204 : decode cL_texts 204 = .ok (.invokestatic 203, 3) := by decide +kernel
theorem dL_texts_207 : decode cL_texts 207 = .ok (.bipush (-17), 2) := by decide +kernel
theorem dL_texts_209 : decode cL_texts 209 = .ok (.if_icmp .eq 5, 3) := by decide +kernel
theorem dL_texts_212 : decode cL_texts 212 = .ok (.iconst 0, 1) := by decide +kernel
theorem dL_texts_213 : decode cL_texts 213 = .ok (.ireturn, 1) := by decide +kernel
theorem dL_texts_214 : decode cL_texts 214 = .ok (.ldc2_w 243, 3) := by decide +kernel
theorem dL_texts_217 : decode cL_texts 217 = .ok (.lconst 0, 1) := by decide +kernel
theorem dL_texts_218 : decode cL_texts 218 = .ok (.lconst 0, 1) := by decide +kernel
theorem dL_texts_219 : decode cL_texts 219 = .ok (.invokestatic 203, 3) := by decide +kernel
theorem dL_texts_222 : decode cL_texts 222 = .ok (.bipush (-10), 2) := by decide +kernel
theorem dL_texts_224 : decode cL_texts 224 = .ok (.if_icmp .ne 45, 3) := by decide +kernel
theorem dL_texts_227 : decode cL_texts 227 = .ok (.ldc2_w 235, 3) := by decide +kernel
theorem dL_texts_230 : decode cL_texts 230 = .ok (.lconst 0, 1) := by decide +kernel
theorem dL_texts_231 : decode cL_texts 231 = .ok (.lconst 0, 1) := by decide +kernel
theorem dL_texts_232 : decode cL_texts 232 = .ok (.invokestatic 203, 3) := by decide +kernel
theorem dL_texts_235 : decode cL_texts 235 = .ok (.bipush (-10), 2) := by decide +kernel
theorem dL_texts_237 : decode cL_texts 237 = .ok (.if_icmp .ne 32, 3) := by decide +kernel
theorem dL_texts_240 : decode cL_texts 240 = .ok (.ldc2_w 245, 3) := by decide +kernel
theorem dL_texts_243 : decode cL_texts 243 = .ok (.ldc2_w 235, 3) := by decide +kernel
theorem dL_texts_246 : decode cL_texts 246 = .ok (.lconst 0, 1) := by decide +kernel
theorem dL_texts_247 : decode cL_texts 247 = .ok (.invokestatic 203, 3) := by decide +kernel
theorem dL_texts_250 : decode cL_texts 250 = .ok (.iconst 1, 1) := by decide +kernel
theorem dL_texts_251 : decode cL_texts 251 = .ok (.if_icmp .ne 18, 3) := by decide +kernel
theorem dL_texts_254 : decode cL_texts 254 = .ok (.ldc2_w 247, 3) := by decide +kernel
theorem dL_texts_257 : decode cL_texts 257 = .ok (.ldc2_w 235, 3) := by decide +kernel
theorem dL_texts_260 : decode cL_texts 260 = .ok (.lconst 0, 1) := by decide +kernel
theorem dL_texts_261 : decode cL_texts 261 = .ok (.invokestatic 203, 3) := by decide +kernel
theorem dL_texts_264 : decode cL_texts 264 = .ok (.bipush (-16), 2) := by decide +kernel
theorem dL_texts_266 : decode cL_texts 266 = .ok (.if_icmp .eq 5, 3) := by decide +kernel
theorem dL_texts_269 : decode cL_texts 269 = .ok (.iconst 0, 1) := by decide +kernel
theorem dL_texts_270 : decode cL_texts 270 = .ok (.ireturn, 1) := by decide +kernel
theorem dL_texts_271 : decode cL_texts 271 = .ok (.ldc2_w 249, 3) := by decide +kernel
theorem dL_texts_274 : decode cL_texts 274 = .ok (.lconst 0, 1) := by decide +kernel
theorem dL_texts_275 : decode cL_texts 275 = .ok (.lconst 0, 1) := by decide +kernel
theorem dL_texts_276 : decode cL_texts 276 = .ok (.invokestatic 203, 3) := by decide +kernel
theorem dL_texts_279 : decode cL_texts 279 = .ok (.bipush (-16), 2) := by decide +kernel
theorem dL_texts_281 : decode cL_texts 281 = .ok (.if_icmp .ne 42, 3) := by decide +kernel
theorem dL_texts_284 : decode cL_texts 284 = .ok (.ldc2_w 251, 3) := by decide +kernel
theorem dL_texts_287 : decode cL_texts 287 = .ok (.ldc2_w 253, 3) := by decide +kernel
theorem dL_texts_290 : decode cL_texts 290 = .ok (.lconst 0, 1) := by decide +kernel
theorem dL_texts_291 : decode cL_texts 291 = .ok (.invokestatic 203, 3) := by decide +kernel
theorem dL_texts_294 : decode cL_texts 294 = .ok (.ifCond .ne 29, 3) := by decide +kernel
theorem dL_texts_297 : decode cL_texts 297 = .ok (.ldc2_w 255, 3) := by decide +kernel
theorem dL_texts_300 : decode cL_texts 300 = .ok (.lconst 0, 1) := by decide +kernel
theorem dL_texts_301 : decode cL_texts 301 = .ok (.lconst 0, 1) := by decide +kernel
theorem dL_texts_302 : decode cL_texts 302 = .ok (.invokestatic 203, 3) := by decide +kernel
theorem dL_texts_305 : decode cL_texts 305 = .ok (.bipush (-10), 2) := by decide +kernel
theorem dL_texts_307 : decode cL_texts 307 = .ok (.if_icmp .ne 16, 3) := by decide +kernel
theorem dL_texts_310 : decode cL_texts 310 = .ok (.ldc2_w 257, 3) := by decide +kernel
theorem dL_texts_313 : decode cL_texts 313 = .ok (.lconst 0, 1) := by decide +kernel
theorem dL_texts_314 : decode cL_texts 314 = .ok (.lconst 0, 1) := by decide +kernel
theorem dL_texts_315 : decode cL_texts 315 = .ok (.invokestatic 203, 3) := by decide +kernel
theorem dL_texts_318 : decode cL_texts 318 = .ok (.bipush (-17), 2) := by decide +kernel
theorem dL_texts_320 : decode cL_texts 320 = .ok (.if_icmp .eq 5, 3) := by decide +kernel
theorem dL_texts_323 : decode cL_texts 323 = .ok (.iconst 0, 1) := by decide +kernel
theorem dL_texts_324 : decode cL_texts 324 = .ok (.ireturn, 1) := by decide +kernel
theorem dL_texts_325 : decode cL_texts 325 = .ok (.ldc2_w 259, 3) := by decide +kernel
theorem dL_texts_328 : decode cL_texts 328 = .ok (.ldc2_w 261, 3) := by decide +kernel
theorem dL_texts_331 : decode cL_texts 331 = .ok (.lconst 0, 1) := by decide +kernel
theorem dL_texts_332 : decode cL_texts 332 = .ok (.invokestatic 203, 3) := by decide +kernel
theorem dL_texts_335 : decode cL_texts 335 = .ok (.bipush (-19), 2) := by decide +kernel
theorem dL_texts_337 : decode cL_texts 337 = .ok (.if_icmp .ne 44, 3) := by decide +kernel
theorem dL_texts_340 : decode cL_texts 340 = .ok (.ldc2_w 263, 3) := by decide +kernel
theorem dL_texts_343 : decode cL_texts 343 = .ok (.ldc2_w 265, 3) := by decide +kernel
theorem dL_texts_346 : decode cL_texts 346 = .ok (.lconst 0, 1) := by decide +kernel
theorem dL_texts_347 : decode cL_texts 347 = .ok (.invokestatic 203, 3) := by decide +kernel
theorem dL_texts_350 : decode cL_texts 350 = .ok (.iconst 1, 1) := by decide +kernel
theorem dL_texts_351 : decode cL_texts 351 = .ok (.if_icmp .ne 30, 3) := by decide +kernel
theorem dL_texts_354 : decode cL_texts 354 = .ok (.ldc2_w 267, 3) := by decide +kernel
theorem dL_texts_357 : decode cL_texts 357 = .ok (.ldc2_w 269, 3) := by decide +kernel
theorem dL_texts_360 : decode cL_texts 360 = .ok (.lconst 0, 1) := by decide +kernel
theorem dL_texts_361 : decode cL_texts 361 = .ok (.invokestatic 203, 3) := by decide +kernel
theorem dL_texts_364 : decode cL_texts 364 = .ok (.ifCond .ne 17, 3) := by decide +kernel
theorem dL_texts_367 : decode cL_texts 367 = .ok (.ldc2_w 271, 3) := by decide +kernel
theorem dL_texts_370 : decode cL_texts 370 = .ok (.ldc2_w 273, 3) := by decide +kernel
theorem dL_texts_373 : decode cL_texts 373 = .ok (.lconst 0, 1) := by decide +kernel
theorem dL_texts_374 : decode cL_texts 374 = .ok (.invokestatic 203, 3) := by decide +kernel
theorem dL_texts_377 : decode cL_texts 377 = .ok (.iconst 1, 1) := by decide +kernel
theorem dL_texts_378 : decode cL_texts 378 = .ok (.if_icmp .eq 5, 3) := by decide +kernel
theorem dL_texts_381 : decode cL_texts 381 = .ok (.iconst 0, 1) := by decide +kernel
theorem dL_texts_382 : decode cL_texts 382 = .ok (.ireturn, 1) := by decide +kernel
theorem dL_texts_383 : decode cL_texts 383 = .ok (.ldc2_w 275, 3) := by decide +kernel
theorem dL_texts_386 : decode cL_texts 386 = .ok (.ldc2_w 277, 3) := by decide +kernel
theorem dL_texts_389 : decode cL_texts 389 = .ok (.lconst 0, 1) := by decide +kernel
theorem dL_texts_390 : decode cL_texts 390 = .ok (.invokestatic 203, 3) := by decide +kernel
theorem dL_texts_393 : decode cL_texts 393 = .ok (.bipush (-17), 2) := by decide +kernel
theorem dL_texts_395 : decode cL_texts 395 = .ok (.if_icmp .ne 48, 3) := by decide +kernel
theorem dL_texts_398 : decode cL_texts 398 = .ok (.ldc2_w 279, 3) := by decide +kernel
theorem dL_texts_401 : decode cL_texts 401 = .ok (.ldc2_w 281, 3) := by decide +kernel
theorem dL_texts_404 : decode cL_texts 404 = .ok (.ldc2_w 283, 3) := by decide +kernel
theorem dL_texts_407 : decode cL_texts 407 = .ok (.invokestatic 203, 3) := by decide +kernel
theorem dL_texts_410 : decode cL_texts 410 = .ok (.iconst 1, 1) := by decide +kernel
theorem dL_texts_411 : decode cL_texts 411 = .ok (.if_icmp .ne 32, 3) := by decide +kernel
theorem dL_texts_414 : decode cL_texts 414 = .ok (.ldc2_w 227, 3) := by decide +kernel
theorem dL_texts_417 : decode cL_texts 417 = .ok (.ldc2_w 285, 3) := by decide +kernel
theorem dL_texts_420 : decode cL_texts 420 = .ok (.ldc2_w 287, 3) := by decide +kernel
theorem dL_texts_423 : decode cL_texts 423 = .ok (.invokestatic 203, 3) := by decide +kernel
theorem dL_texts_426 : decode cL_texts 426 = .ok (.iconst 2, 1) := by decide +kernel
theorem dL_texts_427 : decode cL_texts 427 = .ok (.if_icmp .ne 16, 3) := by decide +kernel
theorem dL_texts_430 : decode cL_texts 430 = .ok (.ldc2_w 289, 3) := by decide +kernel
theorem dL_texts_433 : decode cL_texts 433 = .ok (.lconst 0, 1) := by decide +kernel
theorem dL_texts_434 : decode cL_texts 434 = .ok (.lconst 0, 1) := by decide +kernel
theorem dL_texts_435 : decode cL_texts 435 = .ok (.invokestatic 203, 3) := by decide +kernel
theorem dL_texts_438 : decode cL_texts 438 = .ok (.bipush (-17), 2) := by decide +kernel
theorem dL_texts_440 : decode cL_texts 440 = .ok (.if_icmp .eq 5, 3) := by decide +kernel
theorem dL_texts_443 : decode cL_texts 443 = .ok (.iconst 0, 1) := by decide +kernel
theorem dL_texts_444 : decode cL_texts 444 = .ok (.ireturn, 1) := by decide +kernel
theorem dL_texts_445 : decode cL_texts 445 = .ok (.new 10, 3) := by decide +kernel
theorem dL_texts_448 : decode cL_texts 448 = .ok (.dup, 1) := by decide +kernel
theorem dL_texts_449 : decode cL_texts 449 = .ok (.invokespecial 191, 3) := by decide +kernel
theorem dL_texts_452 : decode cL_texts 452 = .ok (.astore_n 0, 1) := by decide +kernel
theorem dL_texts_453 : decode cL_texts 453 = .ok (.iconst 1, 1) := by decide +kernel
theorem dL_texts_454 : decode cL_texts 454 = .ok (.istore_n 1, 1) := by decide +kernel
theorem dL_texts_455 : decode cL_texts 455 = .ok (.iload_n 1, 1) := by decide +kernel
theorem dL_texts_456 : decode cL_texts 456 = .ok (.sipush 150, 3) := by decide +kernel
theorem dL_texts_459 : decode cL_texts 459 = .ok (.if_icmp .gt 21, 3) := by decide +kernel
theorem dL_texts_462 : decode cL_texts 462 = .ok (.aload_n 0, 1) := by decide +kernel
theorem dL_texts_463 : decode cL_texts 463 = .ok (.bipush 32, 2) := by decide +kernel
theorem dL_texts_465 : decode cL_texts 465 = .ok (.invokestatic 183, 3) := by decide +kernel
theorem dL_texts_468 : decode cL_texts 468 = .ok (.iload_n 1, 1) := by decide +kernel
theorem dL_texts_469 : decode cL_texts 469 = .ok (.if_icmp .eq 5, 3) := by decide +kernel
theorem dL_texts_472 : decode cL_texts 472 = .ok (.iconst 0, 1) := by decide +kernel
theorem dL_texts_473 : decode cL_texts 473 = .ok (.ireturn, 1) := by decide +kernel
theorem dL_texts_474 : decode cL_texts 474 = .ok (.iinc 1 1, 3) := by decide +kernel
theorem dL_texts_477 : decode cL_texts 477 = .ok (.goto (-22), 3) := by decide +kernel
theorem dL_texts_480 : decode cL_texts 480 = .ok (.aload_n 0, 1) := by decide +kernel
theorem dL_texts_481 : decode cL_texts 481 = .ok (.bipush 32, 2) := by decide +kernel
theorem dL_texts_483 : decode cL_texts 483 = .ok (.invokestatic 183, 3) := by decide +kernel
theorem dL_texts_486 : decode cL_texts 486 = .ok (.sipush (-3003), 3) := by decide +kernel
theorem dL_texts_489 : decode cL_texts 489 = .ok (.if_icmp .ne 61, 3) := by decide +kernel
theorem dL_texts_492 : decode cL_texts 492 = .ok (.aload_n 0, 1) := by decide +kernel
theorem dL_texts_493 : decode cL_texts 493 = .ok (.sipush 128, 3) := by decide +kernel
theorem dL_texts_496 : decode cL_texts 496 = .ok (.invokestatic 183, 3) := by decide +kernel
theorem dL_texts_499 : decode cL_texts 499 = .ok (.sipush (-3002), 3) := by decide +kernel
theorem dL_texts_502 : decode cL_texts 502 = .ok (.if_icmp .ne 48, 3) := by decide +kernel
theorem dL_texts_505 : decode cL_texts 505 = .ok (.aload_n 0, 1) := by decide +kernel
theorem dL_texts_506 : decode cL_texts 506 = .ok (.invokevirtual 196, 3) := by decide +kernel
theorem dL_texts_509 : decode cL_texts 509 = .ok (.ifCond .ne 41, 3) := by decide +kernel
theorem dL_texts_512 : decode cL_texts 512 = .ok (.aload_n 0, 1) := by decide +kernel
theorem dL_texts_513 : decode cL_texts 513 = .ok (.invokevirtual 291, 3) := by decide +kernel
theorem dL_texts_516 : decode cL_texts 516 = .ok (.sipush 150, 3) := by decide +kernel
theorem dL_texts_519 : decode cL_texts 519 = .ok (.if_icmp .ne 31, 3) := by decide +kernel
theorem dL_texts_522 : decode cL_texts 522 = .ok (.aload_n 0, 1) := by decide +kernel
theorem dL_texts_523 : decode cL_texts 523 = .ok (.invokevirtual 291, 3) := by decide +kernel
theorem dL_texts_526 : decode cL_texts 526 = .ok (.ifCond .ne 24, 3) := by decide +kernel
theorem dL_texts_529 : decode cL_texts 529 = .ok (.aload_n 0, 1) := by decide +kernel
theorem dL_texts_530 : decode cL_texts 530 = .ok (.invokestatic 199, 3) := by decide +kernel
theorem dL_texts_533 : decode cL_texts 533 = .ok (.ifCond .ne 17, 3) := by decide +kernel
theorem dL_texts_536 : decode cL_texts 536 = .ok (.aload_n 0, 1) := by decide +kernel
theorem dL_texts_537 : decode cL_texts 537 = .ok (.invokestatic 199, 3) := by decide +kernel
theorem dL_texts_540 : decode cL_texts 540 = .ok (.sipush (-3003), 3) := by decide +kernel
theorem dL_texts_543 : decode cL_texts 543 = .ok (.if_icmp .ne 7, 3) := by decide +kernel
theorem dL_texts_546 : decode cL_texts 546 = .ok (.iconst 1, 1) := by decide +kernel
theorem dL_texts_547 : decode cL_texts 547 = .ok (.goto 4, 3) := by decide +kernel
theorem dL_texts_550 : decode cL_texts 550 = .ok (.iconst 0, 1) := by decide +kernel
theorem dL_texts_551 : decode cL_texts 551 = .ok (.ireturn, 1) := by decide +kernel
theorem dL_law_0 : decode cL_law 0 = .ok (.invokestatic 304, 3) := by decide +kernel
theorem dL_law_3 : decode cL_law 3 = .ok (.ifCond .eq 9, 3) := by decide +kernel
theorem dL_law_6 : decode cL_law 6 = .ok (.invokestatic 308, 3) := by decide +kernel
theorem dL_law_9 : decode cL_law 9 = .ok (.ifCond .ne 5, 3) := by decide +kernel
theorem dL_law_12 : decode cL_law 12 = .ok (.iconst 0, 1) := by decide +kernel
theorem dL_law_13 : decode cL_law 13 = .ok (.ireturn, 1) := by decide +kernel
theorem dL_law_14 : decode cL_law 14 = .ok (.new 10, 3) := by decide +kernel
theorem dL_law_17 : decode cL_law 17 = .ok (.dup, 1) := by decide +kernel
theorem dL_law_18 : decode cL_law 18 = .ok (.invokespecial 191, 3) := by decide +kernel
theorem dL_law_21 : decode cL_law 21 = .ok (.astore_n 1, 1) := by decide +kernel
theorem dL_law_22 : decode cL_law 22 = .ok (.aload_n 1, 1) := by decide +kernel
theorem dL_law_23 : decode cL_law 23 = .ok (.iconst 2, 1) := by decide +kernel
theorem dL_law_24 : decode cL_law 24 = .ok (.aload_n 0, 1) := by decide +kernel
theorem dL_law_25 : decode cL_law 25 = .ok (.iconst 0, 1) := by decide +kernel
theorem dL_law_26 : decode cL_law 26 = .ok (.invokestatic 311, 3) := by decide +kernel
theorem dL_law_29 : decode cL_law 29 = .ok (.iconst 5, 1) := by decide +kernel
theorem dL_law_30 : decode cL_law 30 = .ok (.invokestatic 315, 3) := by decide +kernel
theorem dL_law_33 : decode cL_law 33 = .ok (.iadd, 1) := by decide +kernel
theorem dL_law_34 : decode cL_law 34 = .ok (.iconst 2, 1) := by decide +kernel
theorem dL_law_35 : decode cL_law 35 = .ok (.aload_n 0, 1) := by decide +kernel
theorem dL_law_36 : decode cL_law 36 = .ok (.iconst 1, 1) := by decide +kernel
theorem dL_law_37 : decode cL_law 37 = .ok (.invokestatic 311, 3) := by decide +kernel
theorem dL_law_40 : decode cL_law 40 = .ok (.iconst 4, 1) := by decide +kernel
theorem dL_law_41 : decode cL_law 41 = .ok (.invokestatic 315, 3) := by decide +kernel
theorem dL_law_44 : decode cL_law 44 = .ok (.iadd, 1) := by decide +kernel
theorem dL_law_45 : decode cL_law 45 = .ok (.invokestatic 165, 3) := by decide +kernel
theorem dL_law_48 : decode cL_law 48 = .ok (.istore_n 2, 1) := by decide +kernel
theorem dL_law_49 : decode cL_law 49 = .ok (.iconst 0, 1) := by decide +kernel
theorem dL_law_50 : decode cL_law 50 = .ok (.istore_n 3, 1) := by decide +kernel
theorem dL_law_51 : decode cL_law 51 = .ok (.iload_n 3, 1) := by decide +kernel
theorem dL_law_52 : decode cL_law 52 = .ok (.bipush 8, 2) := by decide +kernel
theorem dL_law_54 : decode cL_law 54 = .ok (.if_icmp .ge 45, 3) := by decide +kernel
theorem dL_law_57 : decode cL_law 57 = .ok (.aload_n 1, 1) := by decide +kernel
theorem dL_law_58 : decode cL_law 58 = .ok (.aload_n 0, 1) := by decide +kernel
theorem dL_law_59 : decode cL_law 59 = .ok (.iconst 2, 1) := by decide +kernel
theorem dL_law_60 : decode cL_law 60 = .ok (.iload_n 3, 1) := by decide +kernel
theorem dL_law_61 : decode cL_law 61 = .ok (.iadd, 1) := by decide +kernel
theorem dL_law_62 : decode cL_law 62 = .ok (.invokestatic 311, 3) := by decide +kernel
theorem dL_law_65 : decode cL_law 65 = .ok (.sipush 256, 3) := by decide +kernel
theorem dL_law_68 : decode cL_law 68 = .ok (.invokestatic 315, 3) := by decide +kernel
theorem dL_law_71 : decode cL_law 71 = .ok (.aload_n 0, 1) := by decide +kernel
theorem dL_law_72 : decode cL_law 72 = .ok (.bipush 10, 2) := by decide +kernel
theorem dL_law_74 : decode cL_law 74 = .ok (.iload_n 3, 1) := by decide +kernel
theorem dL_law_75 : decode cL_law 75 = .ok (.iadd, 1) := by decide +kernel
theorem dL_law_76 : decode cL_law 76 = .ok (.invokestatic 311, 3) := by decide +kernel
theorem dL_law_79 : decode cL_law 79 = .ok (.bipush 40, 2) := by decide +kernel
theorem dL_law_81 : decode cL_law 81 = .ok (.invokestatic 315, 3) := by decide +kernel
theorem dL_law_84 : decode cL_law 84 = .ok (.invokestatic 168, 3) := by decide +kernel
theorem dL_law_87 : decode cL_law 87 = .ok (.iload_n 3, 1) := by decide +kernel
theorem dL_law_88 : decode cL_law 88 = .ok (.if_icmp .eq 5, 3) := by decide +kernel
theorem dL_law_91 : decode cL_law 91 = .ok (.iconst 0, 1) := by decide +kernel
theorem dL_law_92 : decode cL_law 92 = .ok (.ireturn, 1) := by decide +kernel
theorem dL_law_93 : decode cL_law 93 = .ok (.iinc 3 1, 3) := by decide +kernel
theorem dL_law_96 : decode cL_law 96 = .ok (.goto (-45), 3) := by decide +kernel
theorem dL_law_99 : decode cL_law 99 = .ok (.aload_n 1, 1) := by decide +kernel
theorem dL_law_100 : decode cL_law 100 = .ok (.iconst 1, 1) := by decide +kernel
theorem dL_law_101 : decode cL_law 101 = .ok (.iconst 1, 1) := by decide +kernel
theorem dL_law_102 : decode cL_law 102 = .ok (.invokestatic 168, 3) := by decide +kernel
theorem dL_law_105 : decode cL_law 105 = .ok (.sipush (-3003), 3) := by decide +kernel
theorem dL_law_108 : decode cL_law 108 = .ok (.if_icmp .ne 24, 3) := by decide +kernel
theorem dL_law_111 : decode cL_law 111 = .ok (.aload_n 1, 1) := by decide +kernel
theorem dL_law_112 : decode cL_law 112 = .ok (.sipush 256, 3) := by decide +kernel
theorem dL_law_115 : decode cL_law 115 = .ok (.iconst 1, 1) := by decide +kernel
theorem dL_law_116 : decode cL_law 116 = .ok (.invokestatic 168, 3) := by decide +kernel
theorem dL_law_119 : decode cL_law 119 = .ok (.sipush (-3002), 3) := by decide +kernel
theorem dL_law_122 : decode cL_law 122 = .ok (.if_icmp .ne 10, 3) := by decide +kernel
theorem dL_law_125 : decode cL_law 125 = .ok (.aload_n 1, 1) := by decide +kernel
theorem dL_law_126 : decode cL_law 126 = .ok (.invokestatic 294, 3) := by decide +kernel
theorem dL_law_129 : decode cL_law 129 = .ok (.ifCond .ne 5, 3) := by decide +kernel
theorem dL_law_132 : decode cL_law 132 = .ok (.iconst 0, 1) := by decide +kernel
theorem dL_law_133 : decode cL_law 133 = .ok (.ireturn, 1) := by decide +kernel
theorem dL_law_134 : decode cL_law 134 = .ok (.bipush 32, 2) := by decide +kernel
theorem dL_law_136 : decode cL_law 136 = .ok (.newarray .long, 2) := by decide +kernel
theorem dL_law_138 : decode cL_law 138 = .ok (.astore_n 3, 1) := by decide +kernel
theorem dL_law_139 : decode cL_law 139 = .ok (.iconst 0, 1) := by decide +kernel
theorem dL_law_140 : decode cL_law 140 = .ok (.istore 4, 2) := by decide +kernel
theorem dL_law_142 : decode cL_law 142 = .ok (.iconst 0, 1) := by decide +kernel
theorem dL_law_143 : decode cL_law 143 = .ok (.istore 5, 2) := by decide +kernel
theorem dL_law_145 : decode cL_law 145 = .ok (.iload 5, 2) := by decide +kernel
theorem dL_law_147 : decode cL_law 147 = .ok (.bipush 24, 2) := by decide +kernel
theorem dL_law_149 : decode cL_law 149 = .ok (.if_icmp .ge 370, 3) := by decide +kernel
theorem dL_law_152 : decode cL_law 152 = .ok (.aload_n 0, 1) := by decide +kernel
theorem dL_law_153 : decode cL_law 153 = .ok (.bipush 20, 2) := by decide +kernel
theorem dL_law_155 : decode cL_law 155 = .ok (.iload 5, 2) := by decide +kernel
theorem dL_law_157 : decode cL_law 157 = .ok (.iadd, 1) := by decide +kernel
theorem dL_law_158 : decode cL_law 158 = .ok (.invokestatic 311, 3) := by decide +kernel
theorem dL_law_161 : decode cL_law 161 = .ok (.istore 6, 2) := by decide +kernel
theorem dL_law_163 : decode cL_law 163 = .ok (.iload 6, 2) := by decide +kernel
theorem dL_law_165 : decode cL_law 165 = .ok (.bipush 10, 2) := by decide +kernel
theorem dL_law_167 : decode cL_law 167 = .ok (.invokestatic 315, 3) := by decide +kernel
theorem dL_law_170 : decode cL_law 170 = .ok (.istore 7, 2) := by decide +kernel
theorem dL_law_172 : decode cL_law 172 = .ok (.iload 6, 2) := by decide +kernel
theorem dL_law_174 : decode cL_law 174 = .ok (.iconst 4, 1) := by decide +kernel
theorem dL_law_175 : decode cL_law 175 = .ok (.ishr, 1) := by decide +kernel
theorem dL_law_176 : decode cL_law 176 = .ok (.bipush 8, 2) := by decide +kernel
theorem dL_law_178 : decode cL_law 178 = .ok (.invokestatic 315, 3) := by decide +kernel
theorem dL_law_181 : decode cL_law 181 = .ok (.istore 8, 2) := by decide +kernel
theorem dL_law_183 : decode cL_law 183 = .ok (.iload 6, 2) := by decide +kernel
theorem dL_law_185 : decode cL_law 185 = .ok (.bipush 7, 2) := by decide +kernel
theorem dL_law_187 : decode cL_law 187 = .ok (.ishr, 1) := by decide +kernel
theorem dL_law_188 : decode cL_law 188 = .ok (.bipush 8, 2) := by decide +kernel
theorem dL_law_190 : decode cL_law 190 = .ok (.invokestatic 315, 3) := by decide +kernel
theorem dL_law_193 : decode cL_law 193 = .ok (.iconst 2, 1) := by decide +kernel
theorem dL_law_194 : decode cL_law 194 = .ok (.isub, 1) := by decide +kernel
theorem dL_law_195 : decode cL_law 195 = .ok (.istore 9, 2) := by decide +kernel
theorem dL_law_197 : decode cL_law 197 = .ok (.iload 6, 2) := by decide +kernel
theorem dL_law_199 : decode cL_law 199 = .ok (.bipush 10, 2) := by decide +kernel
theorem dL_law_201 : decode cL_law 201 = .ok (.ishr, 1) := by decide +kernel
theorem dL_law_202 : decode cL_law 202 = .ok (.bipush 7, 2) := by decide +kernel
theorem dL_law_204 : decode cL_law 204 = .ok (.invokestatic 315, 3) := by decide +kernel
theorem dL_law_207 : decode cL_law 207 = .ok (.iconst 2, 1) := by decide +kernel
theorem dL_law_208 : decode cL_law 208 = .ok (.isub, 1) := by decide +kernel
theorem dL_law_209 : decode cL_law 209 = .ok (.istore 10, 2) := by decide +kernel
theorem dL_law_211 : decode cL_law 211 = .ok (.aload_n 3, 1) := by decide +kernel
theorem dL_law_212 : decode cL_law 212 = .ok (.iload 4, 2) := by decide +kernel
theorem dL_law_214 : decode cL_law 214 = .ok (.aload_n 1, 1) := by decide +kernel
theorem dL_law_215 : decode cL_law 215 = .ok (.invokestatic 318, 3) := by decide +kernel
theorem dL_law_218 : decode cL_law 218 = .ok (.lastore, 1) := by decide +kernel
theorem dL_law_219 : decode cL_law 219 = .ok (.iload 7, 2) := by decide +kernel
theorem dL_law_221 : decode cL_law 221 = .ok (.ifCond .ne 32, 3) := by decide +kernel
theorem dL_law_224 : decode cL_law 224 = .ok (.aload_n 1, 1) := by decide +kernel
theorem dL_law_225 : decode cL_law 225 = .ok (.iconst 1, 1) := by decide +kernel
theorem dL_law_226 : decode cL_law 226 = .ok (.iload 6, 2) := by decide +kernel
theorem dL_law_228 : decode cL_law 228 = .ok (.iconst 5, 1) := by decide +kernel
theorem dL_law_229 : decode cL_law 229 = .ok (.ishr, 1) := by decide +kernel
theorem dL_law_230 : decode cL_law 230 = .ok (.bipush 6, 2) := by decide +kernel
theorem dL_law_232 : decode cL_law 232 = .ok (.invokestatic 315, 3) := by decide +kernel
theorem dL_law_235 : decode cL_law 235 = .ok (.iadd, 1) := by decide +kernel
theorem dL_law_236 : decode cL_law 236 = .ok (.iconst 1, 1) := by decide +kernel
theorem dL_law_237 : decode cL_law 237 = .ok (.iload 6, 2) := by decide +kernel
theorem dL_law_239 : decode cL_law 239 = .ok (.bipush 8, 2) := by decide +kernel
theorem dL_law_241 : decode cL_law 241 = .ok (.ishr, 1) := by decide +kernel
theorem dL_law_242 : decode cL_law 242 = .ok (.iconst 5, 1) := by decide +kernel
theorem dL_law_243 : decode cL_law 243 = .ok (.invokestatic 315, 3) := by decide +kernel
theorem dL_law_246 : decode cL_law 246 = .ok (.iadd, 1) := by decide +kernel
theorem dL_law_247 : decode cL_law 247 = .ok (.invokestatic 165, 3) := by decide +kernel
theorem dL_law_250 : decode cL_law 250 = .ok (.goto 251, 3) := by decide +kernel
theorem dL_law_253 : decode cL_law 253 = .ok (.iload 7, 2) := by decide +kernel
theorem dL_law_255 : decode cL_law 255 = .ok (.iconst 3, 1) := by decide +kernel
theorem dL_law_256 : decode cL_law 256 = .ok (.if_icmp .ge 48, 3) := by decide +kernel
theorem dL_law_259 : decode cL_law 259 = .ok (.aload_n 1, 1) := by decide +kernel
theorem dL_law_260 : decode cL_law 260 = .ok (.iconst 0, 1) := by decide +kernel
theorem dL_law_261 : decode cL_law 261 = .ok (.iconst 0, 1) := by decide +kernel
theorem dL_law_262 : decode cL_law 262 = .ok (.iload 6, 2) := by decide +kernel
theorem dL_law_264 : decode cL_law 264 = .ok (.iconst 5, 1) := by decide +kernel
theorem dL_law_265 : decode cL_law 265 = .ok (.ishr, 1) := by decide +kernel
theorem dL_law_266 : decode cL_law 266 = .ok (.aload_n 1, 1) := by decide +kernel
theorem dL_law_267 : decode cL_law 267 = .ok (.iconst 0, 1) := by decide +kernel
theorem dL_law_268 : decode cL_law 268 = .ok (.invokestatic 92, 3) := by decide +kernel
theorem dL_law_271 : decode cL_law 271 = .ok (.invokestatic 315, 3) := by decide +kernel
theorem dL_law_274 : decode cL_law 274 = .ok (.iload 6, 2) := by decide +kernel
theorem dL_law_276 : decode cL_law 276 = .ok (.bipush 8, 2) := by decide +kernel
theorem dL_law_278 : decode cL_law 278 = .ok (.ishr, 1) := by decide +kernel
theorem dL_law_279 : decode cL_law 279 = .ok (.aload_n 1, 1) := by decide +kernel
theorem dL_law_280 : decode cL_law 280 = .ok (.iconst 1, 1) := by decide +kernel
theorem dL_law_281 : decode cL_law 281 = .ok (.invokestatic 92, 3) := by decide +kernel
theorem dL_law_284 : decode cL_law 284 = .ok (.invokestatic 315, 3) := by decide +kernel
theorem dL_law_287 : decode cL_law 287 = .ok (.iload 6, 2) := by decide +kernel
theorem dL_law_289 : decode cL_law 289 = .ok (.bipush 6, 2) := by decide +kernel
theorem dL_law_291 : decode cL_law 291 = .ok (.ishr, 1) := by decide +kernel
theorem dL_law_292 : decode cL_law 292 = .ok (.sipush 256, 3) := by decide +kernel
theorem dL_law_295 : decode cL_law 295 = .ok (.invokestatic 315, 3) := by decide +kernel
theorem dL_law_298 : decode cL_law 298 = .ok (.invokestatic 155, 3) := by decide +kernel
theorem dL_law_301 : decode cL_law 301 = .ok (.goto 200, 3) := by decide +kernel
theorem dL_law_304 : decode cL_law 304 = .ok (.iload 7, 2) := by decide +kernel
theorem dL_law_306 : decode cL_law 306 = .ok (.iconst 5, 1) := by decide +kernel
theorem dL_law_307 : decode cL_law 307 = .ok (.if_icmp .ge 44, 3) := by decide +kernel
theorem dL_law_310 : decode cL_law 310 = .ok (.aload_n 1, 1) := by decide +kernel
theorem dL_law_311 : decode cL_law 311 = .ok (.iload 8, 2) := by decide +kernel
theorem dL_law_313 : decode cL_law 313 = .ok (.iload 9, 2) := by decide +kernel
theorem dL_law_315 : decode cL_law 315 = .ok (.iload 10, 2) := by decide +kernel
theorem dL_law_317 : decode cL_law 317 = .ok (.iload 9, 2) := by decide +kernel
theorem dL_law_319 : decode cL_law 319 = .ok (.iconst 1, 1) := by decide +kernel
theorem dL_law_320 : decode cL_law 320 = .ok (.iadd, 1) := by decide +kernel
theorem dL_law_321 : decode cL_law 321 = .ok (.iload 6, 2) := by decide +kernel
theorem dL_law_323 : decode cL_law 323 = .ok (.bipush 6, 2) := by decide +kernel
theorem dL_law_325 : decode cL_law 325 = .ok (.ishr, 1) := by decide +kernel
theorem dL_law_326 : decode cL_law 326 = .ok (.iconst 5, 1) := by decide +kernel
theorem dL_law_327 : decode cL_law 327 = .ok (.invokestatic 315, 3) := by decide +kernel
theorem dL_law_330 : decode cL_law 330 = .ok (.iadd, 1) := by decide +kernel
theorem dL_law_331 : decode cL_law 331 = .ok (.iload 10, 2) := by decide +kernel
theorem dL_law_333 : decode cL_law 333 = .ok (.iconst 1, 1) := by decide +kernel
theorem dL_law_334 : decode cL_law 334 = .ok (.iadd, 1) := by decide +kernel
theorem dL_law_335 : decode cL_law 335 = .ok (.iload 6, 2) := by decide +kernel
theorem dL_law_337 : decode cL_law 337 = .ok (.bipush 9, 2) := by decide +kernel
theorem dL_law_339 : decode cL_law 339 = .ok (.ishr, 1) := by decide +kernel
theorem dL_law_340 : decode cL_law 340 = .ok (.iconst 5, 1) := by decide +kernel
theorem dL_law_341 : decode cL_law 341 = .ok (.invokestatic 315, 3) := by decide +kernel
theorem dL_law_344 : decode cL_law 344 = .ok (.iadd, 1) := by decide +kernel
theorem dL_law_345 : decode cL_law 345 = .ok (.invokestatic 135, 3) := by decide +kernel
theorem dL_law_348 : decode cL_law 348 = .ok (.goto 153, 3) := by decide +kernel
theorem dL_law_351 : decode cL_law 351 = .ok (.iload 7, 2) := by decide +kernel
theorem dL_law_353 : decode cL_law 353 = .ok (.iconst 5, 1) := by decide +kernel
theorem dL_law_354 : decode cL_law 354 = .ok (.if_icmp .ne 25, 3) := by decide +kernel
theorem dL_law_357 : decode cL_law 357 = .ok (.aload_n 1, 1) := by decide +kernel
theorem dL_law_358 : decode cL_law 358 = .ok (.iload 8, 2) := by decide +kernel
theorem dL_law_360 : decode cL_law 360 = .ok (.iload 6, 2) := by decide +kernel
theorem dL_law_362 : decode cL_law 362 = .ok (.bipush 6, 2) := by decide +kernel
theorem dL_law_364 : decode cL_law 364 = .ok (.ishr, 1) := by decide +kernel
theorem dL_law_365 : decode cL_law 365 = .ok (.iconst 4, 1) := by decide +kernel
theorem dL_law_366 : decode cL_law 366 = .ok (.invokestatic 315, 3) := by decide +kernel
theorem dL_law_369 : decode cL_law 369 = .ok (.iload 9, 2) := by decide +kernel
theorem dL_law_371 : decode cL_law 371 = .ok (.iload 10, 2) := by decide +kernel
theorem dL_law_373 : decode cL_law 373 = .ok (.invokestatic 131, 3) := by decide +kernel
theorem dL_law_376 : decode cL_law 376 = .ok (.goto 125, 3) := by decide +kernel
theorem dL_law_379 : decode cL_law 379 = .ok (.iload 7, 2) := by decide +kernel
theorem dL_law_381 : decode cL_law 381 = .ok (.bipush 6, 2) := by decide +kernel
theorem dL_law_383 : decode cL_law 383 = .ok (.if_icmp .ne 32, 3) := by decide +kernel
theorem dL_law_386 : decode cL_law 386 = .ok (.aload_n 1, 1) := by decide +kernel
theorem dL_law_387 : decode cL_law 387 = .ok (.iload 8, 2) := by decide +kernel
theorem dL_law_389 : decode cL_law 389 = .ok (.iload 6, 2) := by decide +kernel
theorem dL_law_391 : decode cL_law 391 = .ok (.bipush 6, 2) := by decide +kernel
theorem dL_law_393 : decode cL_law 393 = .ok (.ishr, 1) := by decide +kernel
theorem dL_law_394 : decode cL_law 394 = .ok (.iconst 3, 1) := by decide +kernel
theorem dL_law_395 : decode cL_law 395 = .ok (.invokestatic 315, 3) := by decide +kernel
theorem dL_law_398 : decode cL_law 398 = .ok (.iload 6, 2) := by decide +kernel
theorem dL_law_400 : decode cL_law 400 = .ok (.bipush 8, 2) := by decide +kernel
theorem dL_law_402 : decode cL_law 402 = .ok (.ishr, 1) := by decide +kernel
theorem dL_law_403 : decode cL_law 403 = .ok (.sipush 256, 3) := by decide +kernel
theorem dL_law_406 : decode cL_law 406 = .ok (.invokestatic 315, 3) := by decide +kernel
theorem dL_law_409 : decode cL_law 409 = .ok (.invokestatic 139, 3) := by decide +kernel
theorem dL_law_412 : decode cL_law 412 = .ok (.goto 89, 3) := by decide +kernel
theorem dL_law_415 : decode cL_law 415 = .ok (.iload 7, 2) := by decide +kernel
theorem dL_law_417 : decode cL_law 417 = .ok (.bipush 7, 2) := by decide +kernel
theorem dL_law_419 : decode cL_law 419 = .ok (.if_icmp .ne 29, 3) := by decide +kernel
theorem dL_law_422 : decode cL_law 422 = .ok (.aload_n 1, 1) := by decide +kernel
theorem dL_law_423 : decode cL_law 423 = .ok (.iload 8, 2) := by decide +kernel
theorem dL_law_425 : decode cL_law 425 = .ok (.iload 6, 2) := by decide +kernel
theorem dL_law_427 : decode cL_law 427 = .ok (.bipush 6, 2) := by decide +kernel
theorem dL_law_429 : decode cL_law 429 = .ok (.ishr, 1) := by decide +kernel
theorem dL_law_430 : decode cL_law 430 = .ok (.iconst 2, 1) := by decide +kernel
theorem dL_law_431 : decode cL_law 431 = .ok (.invokestatic 315, 3) := by decide +kernel
theorem dL_law_434 : decode cL_law 434 = .ok (.ifCond .ne 7, 3) := by decide +kernel
theorem dL_law_437 : decode cL_law 437 = .ok (.iconst 1, 1) := by decide +kernel
theorem dL_law_438 : decode cL_law 438 = .ok (.goto 4, 3) := by decide +kernel
theorem dL_law_441 : decode cL_law 441 = .ok (.iconst 0, 1) := by decide +kernel
theorem dL_law_442 : decode cL_law 442 = .ok (.invokestatic 142, 3) := by decide +kernel
theorem dL_law_445 : decode cL_law 445 = .ok (.goto 56, 3) := by decide +kernel
theorem dL_law_448 : decode cL_law 448 = .ok (.iload 7, 2) := by decide +kernel
theorem dL_law_450 : decode cL_law 450 = .ok (.bipush 8, 2) := by decide +kernel
theorem dL_law_452 : decode cL_law 452 = .ok (.if_icmp .ne 32, 3) := by decide +kernel
theorem dL_law_455 : decode cL_law 455 = .ok (.aload_n 1, 1) := by decide +kernel
theorem dL_law_456 : decode cL_law 456 = .ok (.iload 6, 2) := by decide +kernel
theorem dL_law_458 : decode cL_law 458 = .ok (.bipush 6, 2) := by decide +kernel
theorem dL_law_460 : decode cL_law 460 = .ok (.ishr, 1) := by decide +kernel
theorem dL_law_461 : decode cL_law 461 = .ok (.iconst 5, 1) := by decide +kernel
theorem dL_law_462 : decode cL_law 462 = .ok (.invokestatic 315, 3) := by decide +kernel
theorem dL_law_465 : decode cL_law 465 = .ok (.iconst 2, 1) := by decide +kernel
theorem dL_law_466 : decode cL_law 466 = .ok (.isub, 1) := by decide +kernel
theorem dL_law_467 : decode cL_law 467 = .ok (.iload 6, 2) := by decide +kernel
theorem dL_law_469 : decode cL_law 469 = .ok (.bipush 8, 2) := by decide +kernel
theorem dL_law_471 : decode cL_law 471 = .ok (.ishr, 1) := by decide +kernel
theorem dL_law_472 : decode cL_law 472 = .ok (.iconst 5, 1) := by decide +kernel
theorem dL_law_473 : decode cL_law 473 = .ok (.invokestatic 315, 3) := by decide +kernel
theorem dL_law_476 : decode cL_law 476 = .ok (.iconst 2, 1) := by decide +kernel
theorem dL_law_477 : decode cL_law 477 = .ok (.isub, 1) := by decide +kernel
theorem dL_law_478 : decode cL_law 478 = .ok (.invokestatic 171, 3) := by decide +kernel
theorem dL_law_481 : decode cL_law 481 = .ok (.goto 20, 3) := by decide +kernel
theorem dL_law_484 : decode cL_law 484 = .ok (.aload_n 1, 1) := by decide +kernel
theorem dL_law_485 : decode cL_law 485 = .ok (.iconst 1, 1) := by decide +kernel
theorem dL_law_486 : decode cL_law 486 = .ok (.iload 6, 2) := by decide +kernel
theorem dL_law_488 : decode cL_law 488 = .ok (.bipush 6, 2) := by decide +kernel
theorem dL_law_490 : decode cL_law 490 = .ok (.ishr, 1) := by decide +kernel
theorem dL_law_491 : decode cL_law 491 = .ok (.sipush 400, 3) := by decide +kernel
theorem dL_law_494 : decode cL_law 494 = .ok (.invokestatic 315, 3) := by decide +kernel
theorem dL_law_497 : decode cL_law 497 = .ok (.iadd, 1) := by decide +kernel
theorem dL_law_498 : decode cL_law 498 = .ok (.invokestatic 174, 3) := by decide +kernel
theorem dL_law_501 : decode cL_law 501 = .ok (.istore 11, 2) := by decide +kernel
theorem dL_law_503 : decode cL_law 503 = .ok (.iload 11, 2) := by decide +kernel
theorem dL_law_505 : decode cL_law 505 = .ok (.ifCond .ge 5, 3) := by decide +kernel
theorem dL_law_508 : decode cL_law 508 = .ok (.iconst 0, 1) := by decide +kernel
theorem dL_law_509 : decode cL_law 509 = .ok (.ireturn, 1) := by decide +kernel
theorem dL_law_510 : decode cL_law 510 = .ok (.iinc 4 1, 3) := by decide +kernel
theorem dL_law_513 : decode cL_law 513 = .ok (.iinc 5 1, 3) := by decide +kernel
theorem dL_law_516 : decode cL_law 516 = .ok (.goto (-371), 3) := by decide +kernel
theorem dL_law_519 : decode cL_law 519 = .ok (.aload_n 1, 1) := by decide +kernel
theorem dL_law_520 : decode cL_law 520 = .ok (.invokestatic 294, 3) := by decide +kernel
theorem dL_law_523 : decode cL_law 523 = .ok (.ifCond .eq 11, 3) := by decide +kernel
theorem dL_law_526 : decode cL_law 526 = .ok (.aload_n 1, 1) := by decide +kernel
theorem dL_law_527 : decode cL_law 527 = .ok (.iconst 4, 1) := by decide +kernel
theorem dL_law_528 : decode cL_law 528 = .ok (.invokestatic 297, 3) := by decide +kernel
theorem dL_law_531 : decode cL_law 531 = .ok (.ifCond .ne 5, 3) := by decide +kernel
theorem dL_law_534 : decode cL_law 534 = .ok (.iconst 0, 1) := by decide +kernel
theorem dL_law_535 : decode cL_law 535 = .ok (.ireturn, 1) := by decide +kernel
theorem dL_law_536 : decode cL_law 536 = .ok (.iconst 1, 1) := by decide +kernel
theorem dL_law_537 : decode cL_law 537 = .ok (.istore 5, 2) := by decide +kernel
theorem dL_law_539 : decode cL_law 539 = .ok (.iload 5, 2) := by decide +kernel
theorem dL_law_541 : decode cL_law 541 = .ok (.iconst 4, 1) := by decide +kernel
theorem dL_law_542 : decode cL_law 542 = .ok (.if_icmp .gt 37, 3) := by decide +kernel
theorem dL_law_545 : decode cL_law 545 = .ok (.aload_n 1, 1) := by decide +kernel
theorem dL_law_546 : decode cL_law 546 = .ok (.invokestatic 199, 3) := by decide +kernel
theorem dL_law_549 : decode cL_law 549 = .ok (.iconst 4, 1) := by decide +kernel
theorem dL_law_550 : decode cL_law 550 = .ok (.iload 5, 2) := by decide +kernel
theorem dL_law_552 : decode cL_law 552 = .ok (.isub, 1) := by decide +kernel
theorem dL_law_553 : decode cL_law 553 = .ok (.if_icmp .ne 18, 3) := by decide +kernel
theorem dL_law_556 : decode cL_law 556 = .ok (.aload_n 1, 1) := by decide +kernel
theorem dL_law_557 : decode cL_law 557 = .ok (.invokestatic 318, 3) := by decide +kernel
theorem dL_law_560 : decode cL_law 560 = .ok (.aload_n 3, 1) := by decide +kernel
theorem dL_law_561 : decode cL_law 561 = .ok (.iload 4, 2) := by decide +kernel
theorem dL_law_563 : decode cL_law 563 = .ok (.iload 5, 2) := by decide +kernel
theorem dL_law_565 : decode cL_law 565 = .ok (.isub, 1) := by decide +kernel
theorem dL_law_566 : decode cL_law 566 = .ok (.laload, 1) := by decide +kernel
theorem dL_law_567 : decode cL_law 567 = .ok (.lcmp, 1) := by decide +kernel
theorem dL_law_568 : decode cL_law 568 = .ok (.ifCond .eq 5, 3) := by decide +kernel
theorem dL_law_571 : decode cL_law 571 = .ok (.iconst 0, 1) := by decide +kernel
theorem dL_law_572 : decode cL_law 572 = .ok (.ireturn, 1) := by decide +kernel
theorem dL_law_573 : decode cL_law 573 = .ok (.iinc 5 1, 3) := by decide +kernel
theorem dL_law_576 : decode cL_law 576 = .ok (.goto (-37), 3) := by decide +kernel
theorem dL_law_579 : decode cL_law 579 = .ok (.aload_n 1, 1) := by decide +kernel
theorem dL_law_580 : decode cL_law 580 = .ok (.invokestatic 199, 3) := by decide +kernel
theorem dL_law_583 : decode cL_law 583 = .ok (.sipush (-3003), 3) := by decide +kernel
theorem dL_law_586 : decode cL_law 586 = .ok (.if_icmp .ne 7, 3) := by decide +kernel
theorem dL_law_589 : decode cL_law 589 = .ok (.iconst 1, 1) := by decide +kernel
theorem dL_law_590 : decode cL_law 590 = .ok (.goto 4, 3) := by decide +kernel
theorem dL_law_593 : decode cL_law 593 = .ok (.iconst 0, 1) := by decide +kernel
theorem dL_law_594 : decode cL_law 594 = .ok (.ireturn, 1) := by decide +kernel
