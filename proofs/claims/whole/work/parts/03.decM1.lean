theorem dX8_ring_28 : decode cX8_ring 28 = .ok (.aload_n 0, 1) := by decide +kernel
theorem dX8_ring_29 : decode cX8_ring 29 = .ok (.bipush 24, 2) := by decide +kernel
theorem dX8_ring_31 : decode cX8_ring 31 = .ok (.putfield 316, 3) := by decide +kernel
theorem dX8_ring_34 : decode cX8_ring 34 = .ok (.aload_n 0, 1) := by decide +kernel
theorem dX8_ring_35 : decode cX8_ring 35 = .ok (.iconst 0, 1) := by decide +kernel
theorem dX8_ring_36 : decode cX8_ring 36 = .ok (.putfield 322, 3) := by decide +kernel
theorem dX8_ring_39 : decode cX8_ring 39 = .ok (.aload_n 0, 1) := by decide +kernel
theorem dX8_ring_40 : decode cX8_ring 40 = .ok (.iconst 0, 1) := by decide +kernel
theorem dX8_ring_41 : decode cX8_ring 41 = .ok (.putfield 260, 3) := by decide +kernel
theorem dX8_ring_44 : decode cX8_ring 44 = .ok (.aload_n 0, 1) := by decide +kernel
theorem dX8_ring_45 : decode cX8_ring 45 = .ok (.iconst 0, 1) := by decide +kernel
theorem dX8_ring_46 : decode cX8_ring 46 = .ok (.putfield 319, 3) := by decide +kernel
theorem dX8_ring_49 : decode cX8_ring 49 = .ok (.aload_n 0, 1) := by decide +kernel
theorem dX8_ring_50 : decode cX8_ring 50 = .ok (.iconst 0, 1) := by decide +kernel
theorem dX8_ring_51 : decode cX8_ring 51 = .ok (.putfield 333, 3) := by decide +kernel
theorem dX8_ring_54 : decode cX8_ring 54 = .ok (.aload_n 0, 1) := by decide +kernel
theorem dX8_ring_55 : decode cX8_ring 55 = .ok (.iconst 0, 1) := by decide +kernel
theorem dX8_ring_56 : decode cX8_ring 56 = .ok (.putfield 280, 3) := by decide +kernel
theorem dX8_ring_59 : decode cX8_ring 59 = .ok (.iconst 0, 1) := by decide +kernel
theorem dX8_ring_60 : decode cX8_ring 60 = .ok (.istore_n 1, 1) := by decide +kernel
theorem dX8_ring_61 : decode cX8_ring 61 = .ok (.iload_n 1, 1) := by decide +kernel
theorem dX8_ring_62 : decode cX8_ring 62 = .ok (.bipush 40, 2) := by decide +kernel
theorem dX8_ring_64 : decode cX8_ring 64 = .ok (.if_icmp .ge 30, 3) := by decide +kernel
theorem dX8_ring_67 : decode cX8_ring 67 = .ok (.aload_n 0, 1) := by decide +kernel
theorem dX8_ring_68 : decode cX8_ring 68 = .ok (.getfield 17, 3) := by decide +kernel
theorem dX8_ring_71 : decode cX8_ring 71 = .ok (.iload_n 1, 1) := by decide +kernel
theorem dX8_ring_72 : decode cX8_ring 72 = .ok (.iconst 0, 1) := by decide +kernel
theorem dX8_ring_73 : decode cX8_ring 73 = .ok (.bastore, 1) := by decide +kernel
theorem dX8_ring_74 : decode cX8_ring 74 = .ok (.aload_n 0, 1) := by decide +kernel
theorem dX8_ring_75 : decode cX8_ring 75 = .ok (.getfield 21, 3) := by decide +kernel
theorem dX8_ring_78 : decode cX8_ring 78 = .ok (.iload_n 1, 1) := by decide +kernel
theorem dX8_ring_79 : decode cX8_ring 79 = .ok (.iconst 0, 1) := by decide +kernel
theorem dX8_ring_80 : decode cX8_ring 80 = .ok (.bastore, 1) := by decide +kernel
theorem dX8_ring_81 : decode cX8_ring 81 = .ok (.aload_n 0, 1) := by decide +kernel
theorem dX8_ring_82 : decode cX8_ring 82 = .ok (.getfield 24, 3) := by decide +kernel
theorem dX8_ring_85 : decode cX8_ring 85 = .ok (.iload_n 1, 1) := by decide +kernel
theorem dX8_ring_86 : decode cX8_ring 86 = .ok (.iconst 0, 1) := by decide +kernel
theorem dX8_ring_87 : decode cX8_ring 87 = .ok (.bastore, 1) := by decide +kernel
theorem dX8_ring_88 : decode cX8_ring 88 = .ok (.iinc 1 1, 3) := by decide +kernel
theorem dX8_ring_91 : decode cX8_ring 91 = .ok (.goto (-30), 3) := by decide +kernel
theorem dX8_ring_94 : decode cX8_ring 94 = .ok (.aload_n 0, 1) := by decide +kernel
theorem dX8_ring_95 : decode cX8_ring 95 = .ok (.invokevirtual 210, 3) := by decide +kernel
theorem dX8_ring_98 : decode cX8_ring 98 = .ok (.aload_n 0, 1) := by decide +kernel
theorem dX8_ring_99 : decode cX8_ring 99 = .ok (.getfield 200, 3) := by decide +kernel
theorem dX8_ring_102 : decode cX8_ring 102 = .ok (.ifCond .ne 17, 3) := by decide +kernel
theorem dX8_ring_105 : decode cX8_ring 105 = .ok (.aload_n 0, 1) := by decide +kernel
theorem dX8_ring_106 : decode cX8_ring 106 = .ok (.getfield 187, 3) := by decide +kernel
theorem dX8_ring_109 : decode cX8_ring 109 = .ok (.ifCond .eq 10, 3) := by decide +kernel
theorem dX8_ring_112 : decode cX8_ring 112 = .ok (.aload_n 0, 1) := by decide +kernel
theorem dX8_ring_113 : decode cX8_ring 113 = .ok (.invokevirtual 372, 3) := by decide +kernel
theorem dX8_ring_116 : decode cX8_ring 116 = .ok (.goto (-18), 3) := by decide +kernel
theorem dX8_ring_119 : decode cX8_ring 119 = .ok (.aload_n 0, 1) := by decide +kernel
theorem dX8_ring_120 : decode cX8_ring 120 = .ok (.getfield 200, 3) := by decide +kernel
theorem dX8_ring_123 : decode cX8_ring 123 = .ok (.ifCond .le 5, 3) := by decide +kernel
theorem dX8_ring_126 : decode cX8_ring 126 = .ok (.iconst (-1), 1) := by decide +kernel
theorem dX8_ring_127 : decode cX8_ring 127 = .ok (.ireturn, 1) := by decide +kernel
theorem dX8_ring_128 : decode cX8_ring 128 = .ok (.iconst 0, 1) := by decide +kernel
theorem dX8_ring_129 : decode cX8_ring 129 = .ok (.istore_n 1, 1) := by decide +kernel
theorem dX8_ring_130 : decode cX8_ring 130 = .ok (.iload_n 1, 1) := by decide +kernel
theorem dX8_ring_131 : decode cX8_ring 131 = .ok (.bipush 40, 2) := by decide +kernel
theorem dX8_ring_133 : decode cX8_ring 133 = .ok (.if_icmp .ge 45, 3) := by decide +kernel
theorem dX8_ring_136 : decode cX8_ring 136 = .ok (.aload_n 0, 1) := by decide +kernel
theorem dX8_ring_137 : decode cX8_ring 137 = .ok (.getfield 27, 3) := by decide +kernel
theorem dX8_ring_140 : decode cX8_ring 140 = .ok (.iload_n 1, 1) := by decide +kernel
theorem dX8_ring_141 : decode cX8_ring 141 = .ok (.aload_n 0, 1) := by decide +kernel
theorem dX8_ring_142 : decode cX8_ring 142 = .ok (.getfield 17, 3) := by decide +kernel
theorem dX8_ring_145 : decode cX8_ring 145 = .ok (.iload_n 1, 1) := by decide +kernel
theorem dX8_ring_146 : decode cX8_ring 146 = .ok (.baload, 1) := by decide +kernel
theorem dX8_ring_147 : decode cX8_ring 147 = .ok (.bastore, 1) := by decide +kernel
theorem dX8_ring_148 : decode cX8_ring 148 = .ok (.aload_n 0, 1) := by decide +kernel
theorem dX8_ring_149 : decode cX8_ring 149 = .ok (.getfield 30, 3) := by decide +kernel
theorem dX8_ring_152 : decode cX8_ring 152 = .ok (.iload_n 1, 1) := by decide +kernel
theorem dX8_ring_153 : decode cX8_ring 153 = .ok (.aload_n 0, 1) := by decide +kernel
theorem dX8_ring_154 : decode cX8_ring 154 = .ok (.getfield 21, 3) := by decide +kernel
theorem dX8_ring_157 : decode cX8_ring 157 = .ok (.iload_n 1, 1) := by decide +kernel
theorem dX8_ring_158 : decode cX8_ring 158 = .ok (.baload, 1) := by decide +kernel
theorem dX8_ring_159 : decode cX8_ring 159 = .ok (.bastore, 1) := by decide +kernel
theorem dX8_ring_160 : decode cX8_ring 160 = .ok (.aload_n 0, 1) := by decide +kernel
theorem dX8_ring_161 : decode cX8_ring 161 = .ok (.getfield 33, 3) := by decide +kernel
theorem dX8_ring_164 : decode cX8_ring 164 = .ok (.iload_n 1, 1) := by decide +kernel
theorem dX8_ring_165 : decode cX8_ring 165 = .ok (.aload_n 0, 1) := by decide +kernel
theorem dX8_ring_166 : decode cX8_ring 166 = .ok (.getfield 24, 3) := by decide +kernel
theorem dX8_ring_169 : decode cX8_ring 169 = .ok (.iload_n 1, 1) := by decide +kernel
theorem dX8_ring_170 : decode cX8_ring 170 = .ok (.baload, 1) := by decide +kernel
theorem dX8_ring_171 : decode cX8_ring 171 = .ok (.bastore, 1) := by decide +kernel
theorem dX8_ring_172 : decode cX8_ring 172 = .ok (.iinc 1 1, 3) := by decide +kernel
theorem dX8_ring_175 : decode cX8_ring 175 = .ok (.goto (-45), 3) := by decide +kernel
theorem dX8_ring_178 : decode cX8_ring 178 = .ok (.iconst 0, 1) := by decide +kernel
theorem dX8_ring_179 : decode cX8_ring 179 = .ok (.istore_n 1, 1) := by decide +kernel
theorem dX8_ring_180 : decode cX8_ring 180 = .ok (.iload_n 1, 1) := by decide +kernel
theorem dX8_ring_181 : decode cX8_ring 181 = .ok (.bipush 6, 2) := by decide +kernel
theorem dX8_ring_183 : decode cX8_ring 183 = .ok (.if_icmp .ge 45, 3) := by decide +kernel
theorem dX8_ring_186 : decode cX8_ring 186 = .ok (.aload_n 0, 1) := by decide +kernel
theorem dX8_ring_187 : decode cX8_ring 187 = .ok (.getfield 45, 3) := by decide +kernel
theorem dX8_ring_190 : decode cX8_ring 190 = .ok (.iload_n 1, 1) := by decide +kernel
theorem dX8_ring_191 : decode cX8_ring 191 = .ok (.aload_n 0, 1) := by decide +kernel
theorem dX8_ring_192 : decode cX8_ring 192 = .ok (.getfield 36, 3) := by decide +kernel
theorem dX8_ring_195 : decode cX8_ring 195 = .ok (.iload_n 1, 1) := by decide +kernel
theorem dX8_ring_196 : decode cX8_ring 196 = .ok (.iaload, 1) := by decide +kernel
theorem dX8_ring_197 : decode cX8_ring 197 = .ok (.iastore, 1) := by decide +kernel
theorem dX8_ring_198 : decode cX8_ring 198 = .ok (.aload_n 0, 1) := by decide +kernel
theorem dX8_ring_199 : decode cX8_ring 199 = .ok (.getfield 48, 3) := by decide +kernel
theorem dX8_ring_202 : decode cX8_ring 202 = .ok (.iload_n 1, 1) := by decide +kernel
theorem dX8_ring_203 : decode cX8_ring 203 = .ok (.aload_n 0, 1) := by decide +kernel
theorem dX8_ring_204 : decode cX8_ring 204 = .ok (.getfield 39, 3) := by decide +kernel
theorem dX8_ring_207 : decode cX8_ring 207 = .ok (.iload_n 1, 1) := by decide +kernel
theorem dX8_ring_208 : decode cX8_ring 208 = .ok (.iaload, 1) := by decide +kernel
theorem dX8_ring_209 : decode cX8_ring 209 = .ok (.iastore, 1) := by decide +kernel
theorem dX8_ring_210 : decode cX8_ring 210 = .ok (.aload_n 0, 1) := by decide +kernel
theorem dX8_ring_211 : decode cX8_ring 211 = .ok (.getfield 51, 3) := by decide +kernel
theorem dX8_ring_214 : decode cX8_ring 214 = .ok (.iload_n 1, 1) := by decide +kernel
theorem dX8_ring_215 : decode cX8_ring 215 = .ok (.aload_n 0, 1) := by decide +kernel
theorem dX8_ring_216 : decode cX8_ring 216 = .ok (.getfield 42, 3) := by decide +kernel
theorem dX8_ring_219 : decode cX8_ring 219 = .ok (.iload_n 1, 1) := by decide +kernel
theorem dX8_ring_220 : decode cX8_ring 220 = .ok (.iaload, 1) := by decide +kernel
theorem dX8_ring_221 : decode cX8_ring 221 = .ok (.iastore, 1) := by decide +kernel
theorem dX8_ring_222 : decode cX8_ring 222 = .ok (.iinc 1 1, 3) := by decide +kernel
theorem dX8_ring_225 : decode cX8_ring 225 = .ok (.goto (-45), 3) := by decide +kernel
theorem dX8_ring_228 : decode cX8_ring 228 = .ok (.aload_n 0, 1) := by decide +kernel
theorem dX8_ring_229 : decode cX8_ring 229 = .ok (.aload_n 0, 1) := by decide +kernel
theorem dX8_ring_230 : decode cX8_ring 230 = .ok (.getfield 316, 3) := by decide +kernel
theorem dX8_ring_233 : decode cX8_ring 233 = .ok (.putfield 151, 3) := by decide +kernel
theorem dX8_ring_236 : decode cX8_ring 236 = .ok (.aload_n 0, 1) := by decide +kernel
theorem dX8_ring_237 : decode cX8_ring 237 = .ok (.aload_n 0, 1) := by decide +kernel
theorem dX8_ring_238 : decode cX8_ring 238 = .ok (.getfield 322, 3) := by decide +kernel
theorem dX8_ring_241 : decode cX8_ring 241 = .ok (.putfield 375, 3) := by decide +kernel
theorem dX8_ring_244 : decode cX8_ring 244 = .ok (.aload_n 0, 1) := by decide +kernel
theorem dX8_ring_245 : decode cX8_ring 245 = .ok (.invokevirtual 154, 3) := by decide +kernel
theorem dX8_ring_248 : decode cX8_ring 248 = .ok (.aload_n 0, 1) := by decide +kernel
theorem dX8_ring_249 : decode cX8_ring 249 = .ok (.getfield 280, 3) := by decide +kernel
theorem dX8_ring_252 : decode cX8_ring 252 = .ok (.ifCond .eq 91, 3) := by decide +kernel
theorem dX8_ring_255 : decode cX8_ring 255 = .ok (.aload_n 0, 1) := by decide +kernel
theorem dX8_ring_256 : decode cX8_ring 256 = .ok (.aload_n 0, 1) := by decide +kernel
theorem dX8_ring_257 : decode cX8_ring 257 = .ok (.getfield 290, 3) := by decide +kernel
theorem dX8_ring_260 : decode cX8_ring 260 = .ok (.putfield 354, 3) := by decide +kernel
theorem dX8_ring_263 : decode cX8_ring 263 = .ok (.aload_n 0, 1) := by decide +kernel
theorem dX8_ring_264 : decode cX8_ring 264 = .ok (.aload_n 0, 1) := by decide +kernel
theorem dX8_ring_265 : decode cX8_ring 265 = .ok (.getfield 295, 3) := by decide +kernel
theorem dX8_ring_268 : decode cX8_ring 268 = .ok (.putfield 357, 3) := by decide +kernel
theorem dX8_ring_271 : decode cX8_ring 271 = .ok (.aload_n 0, 1) := by decide +kernel
theorem dX8_ring_272 : decode cX8_ring 272 = .ok (.aload_n 0, 1) := by decide +kernel
theorem dX8_ring_273 : decode cX8_ring 273 = .ok (.getfield 300, 3) := by decide +kernel
theorem dX8_ring_276 : decode cX8_ring 276 = .ok (.putfield 360, 3) := by decide +kernel
theorem dX8_ring_279 : decode cX8_ring 279 = .ok (.aload_n 0, 1) := by decide +kernel
theorem dX8_ring_280 : decode cX8_ring 280 = .ok (.aload_n 0, 1) := by decide +kernel
theorem dX8_ring_281 : decode cX8_ring 281 = .ok (.getfield 305, 3) := by decide +kernel
theorem dX8_ring_284 : decode cX8_ring 284 = .ok (.putfield 363, 3) := by decide +kernel
theorem dX8_ring_287 : decode cX8_ring 287 = .ok (.aload_n 0, 1) := by decide +kernel
theorem dX8_ring_288 : decode cX8_ring 288 = .ok (.aload_n 0, 1) := by decide +kernel
theorem dX8_ring_289 : decode cX8_ring 289 = .ok (.getfield 260, 3) := by decide +kernel
theorem dX8_ring_292 : decode cX8_ring 292 = .ok (.putfield 366, 3) := by decide +kernel
theorem dX8_ring_295 : decode cX8_ring 295 = .ok (.aload_n 0, 1) := by decide +kernel
theorem dX8_ring_296 : decode cX8_ring 296 = .ok (.aload_n 0, 1) := by decide +kernel
theorem dX8_ring_297 : decode cX8_ring 297 = .ok (.getfield 221, 3) := by decide +kernel
theorem dX8_ring_300 : decode cX8_ring 300 = .ok (.putfield 369, 3) := by decide +kernel
theorem dX8_ring_303 : decode cX8_ring 303 = .ok (.iconst 0, 1) := by decide +kernel
theorem dX8_ring_304 : decode cX8_ring 304 = .ok (.istore_n 1, 1) := by decide +kernel
theorem dX8_ring_305 : decode cX8_ring 305 = .ok (.iload_n 1, 1) := by decide +kernel
theorem dX8_ring_306 : decode cX8_ring 306 = .ok (.aload_n 0, 1) := by decide +kernel
theorem dX8_ring_307 : decode cX8_ring 307 = .ok (.getfield 369, 3) := by decide +kernel
theorem dX8_ring_310 : decode cX8_ring 310 = .ok (.if_icmp .ge 33, 3) := by decide +kernel
theorem dX8_ring_313 : decode cX8_ring 313 = .ok (.aload_n 0, 1) := by decide +kernel
theorem dX8_ring_314 : decode cX8_ring 314 = .ok (.getfield 60, 3) := by decide +kernel
theorem dX8_ring_317 : decode cX8_ring 317 = .ok (.iload_n 1, 1) := by decide +kernel
theorem dX8_ring_318 : decode cX8_ring 318 = .ok (.aload_n 0, 1) := by decide +kernel
theorem dX8_ring_319 : decode cX8_ring 319 = .ok (.getfield 54, 3) := by decide +kernel
theorem dX8_ring_322 : decode cX8_ring 322 = .ok (.iload_n 1, 1) := by decide +kernel
theorem dX8_ring_323 : decode cX8_ring 323 = .ok (.iaload, 1) := by decide +kernel
theorem dX8_ring_324 : decode cX8_ring 324 = .ok (.iastore, 1) := by decide +kernel
theorem dX8_ring_325 : decode cX8_ring 325 = .ok (.aload_n 0, 1) := by decide +kernel
theorem dX8_ring_326 : decode cX8_ring 326 = .ok (.getfield 63, 3) := by decide +kernel
theorem dX8_ring_329 : decode cX8_ring 329 = .ok (.iload_n 1, 1) := by decide +kernel
theorem dX8_ring_330 : decode cX8_ring 330 = .ok (.aload_n 0, 1) := by decide +kernel
theorem dX8_ring_331 : decode cX8_ring 331 = .ok (.getfield 57, 3) := by decide +kernel
theorem dX8_ring_334 : decode cX8_ring 334 = .ok (.iload_n 1, 1) := by decide +kernel
theorem dX8_ring_335 : decode cX8_ring 335 = .ok (.iaload, 1) := by decide +kernel
theorem dX8_ring_336 : decode cX8_ring 336 = .ok (.iastore, 1) := by decide +kernel
theorem dX8_ring_337 : decode cX8_ring 337 = .ok (.iinc 1 1, 3) := by decide +kernel
theorem dX8_ring_340 : decode cX8_ring 340 = .ok (.goto (-35), 3) := by decide +kernel
theorem dX8_ring_343 : decode cX8_ring 343 = .ok (.aload_n 0, 1) := by decide +kernel
theorem dX8_ring_344 : decode cX8_ring 344 = .ok (.invokevirtual 157, 3) := by decide +kernel
theorem dX8_ring_347 : decode cX8_ring 347 = .ok (.aload_n 0, 1) := by decide +kernel
theorem dX8_ring_348 : decode cX8_ring 348 = .ok (.iconst 0, 1) := by decide +kernel
theorem dX8_ring_349 : decode cX8_ring 349 = .ok (.putfield 378, 3) := by decide +kernel
theorem dX8_ring_352 : decode cX8_ring 352 = .ok (.iconst 0, 1) := by decide +kernel
theorem dX8_ring_353 : decode cX8_ring 353 = .ok (.istore_n 1, 1) := by decide +kernel
theorem dX8_ring_354 : decode cX8_ring 354 = .ok (.iload_n 1, 1) := by decide +kernel
theorem dX8_ring_355 : decode cX8_ring 355 = .ok (.iconst 3, 1) := by decide +kernel
theorem dX8_ring_356 : decode cX8_ring 356 = .ok (.if_icmp .ge 16, 3) := by decide +kernel
theorem dX8_ring_359 : decode cX8_ring 359 = .ok (.aload_n 0, 1) := by decide +kernel
theorem dX8_ring_360 : decode cX8_ring 360 = .ok (.getfield 130, 3) := by decide +kernel
theorem dX8_ring_363 : decode cX8_ring 363 = .ok (.iload_n 1, 1) := by decide +kernel
theorem dX8_ring_364 : decode cX8_ring 364 = .ok (.iconst 0, 1) := by decide +kernel
theorem dX8_ring_365 : decode cX8_ring 365 = .ok (.bastore, 1) := by decide +kernel
theorem dX8_ring_366 : decode cX8_ring 366 = .ok (.iinc 1 1, 3) := by decide +kernel
theorem dX8_ring_369 : decode cX8_ring 369 = .ok (.goto (-15), 3) := by decide +kernel
theorem dX8_ring_372 : decode cX8_ring 372 = .ok (.aload_n 0, 1) := by decide +kernel
theorem dX8_ring_373 : decode cX8_ring 373 = .ok (.getfield 151, 3) := by decide +kernel
theorem dX8_ring_376 : decode cX8_ring 376 = .ok (.ireturn, 1) := by decide +kernel
theorem dX8_fault_0 : decode cX8_fault 0 = .ok (.iload_n 1, 1) := by decide +kernel
theorem dX8_fault_1 : decode cX8_fault 1 = .ok (.ifCond .ne 10, 3) := by decide +kernel
theorem dX8_fault_4 : decode cX8_fault 4 = .ok (.aload_n 0, 1) := by decide +kernel
theorem dX8_fault_5 : decode cX8_fault 5 = .ok (.getfield 200, 3) := by decide +kernel
theorem dX8_fault_8 : decode cX8_fault 8 = .ok (.goto 16, 3) := by decide +kernel
theorem dX8_fault_11 : decode cX8_fault 11 = .ok (.iload_n 1, 1) := by decide +kernel
theorem dX8_fault_12 : decode cX8_fault 12 = .ok (.iconst 1, 1) := by decide +kernel
theorem dX8_fault_13 : decode cX8_fault 13 = .ok (.if_icmp .ne 10, 3) := by decide +kernel
theorem dX8_fault_16 : decode cX8_fault 16 = .ok (.aload_n 0, 1) := by decide +kernel
theorem dX8_fault_17 : decode cX8_fault 17 = .ok (.getfield 13, 3) := by decide +kernel
theorem dX8_fault_20 : decode cX8_fault 20 = .ok (.goto 4, 3) := by decide +kernel
theorem dX8_fault_23 : decode cX8_fault 23 = .ok (.iconst (-1), 1) := by decide +kernel
theorem dX8_fault_24 : decode cX8_fault 24 = .ok (.ireturn, 1) := by decide +kernel
theorem dX8_freshen_0 : decode cX8_freshen 0 = .ok (.iconst 0, 1) := by decide +kernel
theorem dX8_freshen_1 : decode cX8_freshen 1 = .ok (.istore_n 1, 1) := by decide +kernel
theorem dX8_freshen_2 : decode cX8_freshen 2 = .ok (.iload_n 1, 1) := by decide +kernel
theorem dX8_freshen_3 : decode cX8_freshen 3 = .ok (.bipush 40, 2) := by decide +kernel
theorem dX8_freshen_5 : decode cX8_freshen 5 = .ok (.if_icmp .ge 37, 3) := by decide +kernel
theorem dX8_freshen_8 : decode cX8_freshen 8 = .ok (.aload_n 0, 1) := by decide +kernel
theorem dX8_freshen_9 : decode cX8_freshen 9 = .ok (.getfield 72, 3) := by decide +kernel
theorem dX8_freshen_12 : decode cX8_freshen 12 = .ok (.iload_n 1, 1) := by decide +kernel
theorem dX8_freshen_13 : decode cX8_freshen 13 = .ok (.aload_n 0, 1) := by decide +kernel
theorem dX8_freshen_14 : decode cX8_freshen 14 = .ok (.getfield 30, 3) := by decide +kernel
theorem dX8_freshen_17 : decode cX8_freshen 17 = .ok (.iload_n 1, 1) := by decide +kernel
theorem dX8_freshen_18 : decode cX8_freshen 18 = .ok (.baload, 1) := by decide +kernel
theorem dX8_freshen_19 : decode cX8_freshen 19 = .ok (.ifCond .eq 8, 3) := by decide +kernel
theorem dX8_freshen_22 : decode cX8_freshen 22 = .ok (.bipush 40, 2) := by decide +kernel
theorem dX8_freshen_24 : decode cX8_freshen 24 = .ok (.goto 4, 3) := by decide +kernel
theorem dX8_freshen_27 : decode cX8_freshen 27 = .ok (.iconst 0, 1) := by decide +kernel
theorem dX8_freshen_28 : decode cX8_freshen 28 = .ok (.iastore, 1) := by decide +kernel
theorem dX8_freshen_29 : decode cX8_freshen 29 = .ok (.aload_n 0, 1) := by decide +kernel
theorem dX8_freshen_30 : decode cX8_freshen 30 = .ok (.getfield 75, 3) := by decide +kernel
theorem dX8_freshen_33 : decode cX8_freshen 33 = .ok (.iload_n 1, 1) := by decide +kernel
theorem dX8_freshen_34 : decode cX8_freshen 34 = .ok (.iconst 0, 1) := by decide +kernel
theorem dX8_freshen_35 : decode cX8_freshen 35 = .ok (.iastore, 1) := by decide +kernel
theorem dX8_freshen_36 : decode cX8_freshen 36 = .ok (.iinc 1 1, 3) := by decide +kernel
theorem dX8_freshen_39 : decode cX8_freshen 39 = .ok (.goto (-37), 3) := by decide +kernel
theorem dX8_freshen_42 : decode cX8_freshen 42 = .ok (.iconst 0, 1) := by decide +kernel
theorem dX8_freshen_43 : decode cX8_freshen 43 = .ok (.istore_n 1, 1) := by decide +kernel
theorem dX8_freshen_44 : decode cX8_freshen 44 = .ok (.iload_n 1, 1) := by decide +kernel
theorem dX8_freshen_45 : decode cX8_freshen 45 = .ok (.iconst 3, 1) := by decide +kernel
theorem dX8_freshen_46 : decode cX8_freshen 46 = .ok (.if_icmp .ge 16, 3) := by decide +kernel
theorem dX8_freshen_49 : decode cX8_freshen 49 = .ok (.aload_n 0, 1) := by decide +kernel
theorem dX8_freshen_50 : decode cX8_freshen 50 = .ok (.getfield 87, 3) := by decide +kernel
theorem dX8_freshen_53 : decode cX8_freshen 53 = .ok (.iload_n 1, 1) := by decide +kernel
theorem dX8_freshen_54 : decode cX8_freshen 54 = .ok (.iconst 0, 1) := by decide +kernel
theorem dX8_freshen_55 : decode cX8_freshen 55 = .ok (.iastore, 1) := by decide +kernel
theorem dX8_freshen_56 : decode cX8_freshen 56 = .ok (.iinc 1 1, 3) := by decide +kernel
theorem dX8_freshen_59 : decode cX8_freshen 59 = .ok (.goto (-15), 3) := by decide +kernel
theorem dX8_freshen_62 : decode cX8_freshen 62 = .ok (.aload_n 0, 1) := by decide +kernel
theorem dX8_freshen_63 : decode cX8_freshen 63 = .ok (.iconst 0, 1) := by decide +kernel
theorem dX8_freshen_64 : decode cX8_freshen 64 = .ok (.putfield 381, 3) := by decide +kernel
theorem dX8_freshen_67 : decode cX8_freshen 67 = .ok (.aload_n 0, 1) := by decide +kernel
theorem dX8_freshen_68 : decode cX8_freshen 68 = .ok (.iconst 0, 1) := by decide +kernel
theorem dX8_freshen_69 : decode cX8_freshen 69 = .ok (.putfield 384, 3) := by decide +kernel
theorem dX8_freshen_72 : decode cX8_freshen 72 = .ok (.return_, 1) := by decide +kernel
theorem dX8_put_0 : decode cX8_put 0 = .ok (.iconst 0, 1) := by decide +kernel
theorem dX8_put_1 : decode cX8_put 1 = .ok (.istore_n 1, 1) := by decide +kernel
theorem dX8_put_2 : decode cX8_put 2 = .ok (.iload_n 1, 1) := by decide +kernel
theorem dX8_put_3 : decode cX8_put 3 = .ok (.bipush 40, 2) := by decide +kernel
theorem dX8_put_5 : decode cX8_put 5 = .ok (.if_icmp .ge 33, 3) := by decide +kernel
theorem dX8_put_8 : decode cX8_put 8 = .ok (.aload_n 0, 1) := by decide +kernel
theorem dX8_put_9 : decode cX8_put 9 = .ok (.getfield 81, 3) := by decide +kernel
theorem dX8_put_12 : decode cX8_put 12 = .ok (.iload_n 1, 1) := by decide +kernel
theorem dX8_put_13 : decode cX8_put 13 = .ok (.aload_n 0, 1) := by decide +kernel
theorem dX8_put_14 : decode cX8_put 14 = .ok (.getfield 72, 3) := by decide +kernel
theorem dX8_put_17 : decode cX8_put 17 = .ok (.iload_n 1, 1) := by decide +kernel
theorem dX8_put_18 : decode cX8_put 18 = .ok (.iaload, 1) := by decide +kernel
theorem dX8_put_19 : decode cX8_put 19 = .ok (.iastore, 1) := by decide +kernel
theorem dX8_put_20 : decode cX8_put 20 = .ok (.aload_n 0, 1) := by decide +kernel
theorem dX8_put_21 : decode cX8_put 21 = .ok (.getfield 84, 3) := by decide +kernel
theorem dX8_put_24 : decode cX8_put 24 = .ok (.iload_n 1, 1) := by decide +kernel
theorem dX8_put_25 : decode cX8_put 25 = .ok (.aload_n 0, 1) := by decide +kernel
theorem dX8_put_26 : decode cX8_put 26 = .ok (.getfield 75, 3) := by decide +kernel
theorem dX8_put_29 : decode cX8_put 29 = .ok (.iload_n 1, 1) := by decide +kernel
theorem dX8_put_30 : decode cX8_put 30 = .ok (.iaload, 1) := by decide +kernel
theorem dX8_put_31 : decode cX8_put 31 = .ok (.iastore, 1) := by decide +kernel
theorem dX8_put_32 : decode cX8_put 32 = .ok (.iinc 1 1, 3) := by decide +kernel
theorem dX8_put_35 : decode cX8_put 35 = .ok (.goto (-33), 3) := by decide +kernel
theorem dX8_put_38 : decode cX8_put 38 = .ok (.iconst 0, 1) := by decide +kernel
theorem dX8_put_39 : decode cX8_put 39 = .ok (.istore_n 1, 1) := by decide +kernel
theorem dX8_put_40 : decode cX8_put 40 = .ok (.iload_n 1, 1) := by decide +kernel
theorem dX8_put_41 : decode cX8_put 41 = .ok (.iconst 3, 1) := by decide +kernel
theorem dX8_put_42 : decode cX8_put 42 = .ok (.if_icmp .ge 21, 3) := by decide +kernel
theorem dX8_put_45 : decode cX8_put 45 = .ok (.aload_n 0, 1) := by decide +kernel
theorem dX8_put_46 : decode cX8_put 46 = .ok (.getfield 90, 3) := by decide +kernel
theorem dX8_put_49 : decode cX8_put 49 = .ok (.iload_n 1, 1) := by decide +kernel
theorem dX8_put_50 : decode cX8_put 50 = .ok (.aload_n 0, 1) := by decide +kernel
theorem dX8_put_51 : decode cX8_put 51 = .ok (.getfield 87, 3) := by decide +kernel
theorem dX8_put_54 : decode cX8_put 54 = .ok (.iload_n 1, 1) := by decide +kernel
theorem dX8_put_55 : decode cX8_put 55 = .ok (.iaload, 1) := by decide +kernel
theorem dX8_put_56 : decode cX8_put 56 = .ok (.iastore, 1) := by decide +kernel
theorem dX8_put_57 : decode cX8_put 57 = .ok (.iinc 1 1, 3) := by decide +kernel
theorem dX8_put_60 : decode cX8_put 60 = .ok (.goto (-20), 3) := by decide +kernel
theorem dX8_put_63 : decode cX8_put 63 = .ok (.aload_n 0, 1) := by decide +kernel
theorem dX8_put_64 : decode cX8_put 64 = .ok (.aload_n 0, 1) := by decide +kernel
theorem dX8_put_65 : decode cX8_put 65 = .ok (.getfield 381, 3) := by decide +kernel
theorem dX8_put_68 : decode cX8_put 68 = .ok (.putfield 387, 3) := by decide +kernel
theorem dX8_put_71 : decode cX8_put 71 = .ok (.aload_n 0, 1) := by decide +kernel
theorem dX8_put_72 : decode cX8_put 72 = .ok (.aload_n 0, 1) := by decide +kernel
theorem dX8_put_73 : decode cX8_put 73 = .ok (.getfield 384, 3) := by decide +kernel
theorem dX8_put_76 : decode cX8_put 76 = .ok (.putfield 390, 3) := by decide +kernel
theorem dX8_put_79 : decode cX8_put 79 = .ok (.return_, 1) := by decide +kernel
theorem dX8_bring_0 : decode cX8_bring 0 = .ok (.iconst 0, 1) := by decide +kernel
theorem dX8_bring_1 : decode cX8_bring 1 = .ok (.istore_n 1, 1) := by decide +kernel
theorem dX8_bring_2 : decode cX8_bring 2 = .ok (.iload_n 1, 1) := by decide +kernel
theorem dX8_bring_3 : decode cX8_bring 3 = .ok (.bipush 40, 2) := by decide +kernel
theorem dX8_bring_5 : decode cX8_bring 5 = .ok (.if_icmp .ge 40, 3) := by decide +kernel
theorem dX8_bring_8 : decode cX8_bring 8 = .ok (.aload_n 0, 1) := by decide +kernel
theorem dX8_bring_9 : decode cX8_bring 9 = .ok (.getfield 72, 3) := by decide +kernel
theorem dX8_bring_12 : decode cX8_bring 12 = .ok (.iload_n 1, 1) := by decide +kernel
theorem dX8_bring_13 : decode cX8_bring 13 = .ok (.aload_n 0, 1) := by decide +kernel
theorem dX8_bring_14 : decode cX8_bring 14 = .ok (.getfield 81, 3) := by decide +kernel
theorem dX8_bring_17 : decode cX8_bring 17 = .ok (.iload_n 1, 1) := by decide +kernel
theorem dX8_bring_18 : decode cX8_bring 18 = .ok (.iaload, 1) := by decide +kernel
theorem dX8_bring_19 : decode cX8_bring 19 = .ok (.iastore, 1) := by decide +kernel
theorem dX8_bring_20 : decode cX8_bring 20 = .ok (.aload_n 0, 1) := by decide +kernel
theorem dX8_bring_21 : decode cX8_bring 21 = .ok (.getfield 75, 3) := by decide +kernel
theorem dX8_bring_24 : decode cX8_bring 24 = .ok (.iload_n 1, 1) := by decide +kernel
theorem dX8_bring_25 : decode cX8_bring 25 = .ok (.aload_n 0, 1) := by decide +kernel
theorem dX8_bring_26 : decode cX8_bring 26 = .ok (.getfield 84, 3) := by decide +kernel
theorem dX8_bring_29 : decode cX8_bring 29 = .ok (.iload_n 1, 1) := by decide +kernel
theorem dX8_bring_30 : decode cX8_bring 30 = .ok (.iaload, 1) := by decide +kernel
theorem dX8_bring_31 : decode cX8_bring 31 = .ok (.iastore, 1) := by decide +kernel
theorem dX8_bring_32 : decode cX8_bring 32 = .ok (.aload_n 0, 1) := by decide +kernel
theorem dX8_bring_33 : decode cX8_bring 33 = .ok (.getfield 93, 3) := by decide +kernel
theorem dX8_bring_36 : decode cX8_bring 36 = .ok (.iload_n 1, 1) := by decide +kernel
theorem dX8_bring_37 : decode cX8_bring 37 = .ok (.iconst 0, 1) := by decide +kernel
theorem dX8_bring_38 : decode cX8_bring 38 = .ok (.bastore, 1) := by decide +kernel
theorem dX8_bring_39 : decode cX8_bring 39 = .ok (.iinc 1 1, 3) := by decide +kernel
theorem dX8_bring_42 : decode cX8_bring 42 = .ok (.goto (-40), 3) := by decide +kernel
theorem dX8_bring_45 : decode cX8_bring 45 = .ok (.iconst 0, 1) := by decide +kernel
theorem dX8_bring_46 : decode cX8_bring 46 = .ok (.istore_n 1, 1) := by decide +kernel
theorem dX8_bring_47 : decode cX8_bring 47 = .ok (.iload_n 1, 1) := by decide +kernel
theorem dX8_bring_48 : decode cX8_bring 48 = .ok (.iconst 3, 1) := by decide +kernel
theorem dX8_bring_49 : decode cX8_bring 49 = .ok (.if_icmp .ge 21, 3) := by decide +kernel
theorem dX8_bring_52 : decode cX8_bring 52 = .ok (.aload_n 0, 1) := by decide +kernel
theorem dX8_bring_53 : decode cX8_bring 53 = .ok (.getfield 87, 3) := by decide +kernel
theorem dX8_bring_56 : decode cX8_bring 56 = .ok (.iload_n 1, 1) := by decide +kernel
theorem dX8_bring_57 : decode cX8_bring 57 = .ok (.aload_n 0, 1) := by decide +kernel
theorem dX8_bring_58 : decode cX8_bring 58 = .ok (.getfield 90, 3) := by decide +kernel
theorem dX8_bring_61 : decode cX8_bring 61 = .ok (.iload_n 1, 1) := by decide +kernel
theorem dX8_bring_62 : decode cX8_bring 62 = .ok (.iaload, 1) := by decide +kernel
theorem dX8_bring_63 : decode cX8_bring 63 = .ok (.iastore, 1) := by decide +kernel
theorem dX8_bring_64 : decode cX8_bring 64 = .ok (.iinc 1 1, 3) := by decide +kernel
theorem dX8_bring_67 : decode cX8_bring 67 = .ok (.goto (-20), 3) := by decide +kernel
theorem dX8_bring_70 : decode cX8_bring 70 = .ok (.aload_n 0, 1) := by decide +kernel
theorem dX8_bring_71 : decode cX8_bring 71 = .ok (.aload_n 0, 1) := by decide +kernel
theorem dX8_bring_72 : decode cX8_bring 72 = .ok (.getfield 387, 3) := by decide +kernel
theorem dX8_bring_75 : decode cX8_bring 75 = .ok (.putfield 381, 3) := by decide +kernel
theorem dX8_bring_78 : decode cX8_bring 78 = .ok (.aload_n 0, 1) := by decide +kernel
theorem dX8_bring_79 : decode cX8_bring 79 = .ok (.aload_n 0, 1) := by decide +kernel
theorem dX8_bring_80 : decode cX8_bring 80 = .ok (.getfield 390, 3) := by decide +kernel
theorem dX8_bring_83 : decode cX8_bring 83 = .ok (.putfield 384, 3) := by decide +kernel
theorem dX8_bring_86 : decode cX8_bring 86 = .ok (.return_, 1) := by decide +kernel
theorem dX8_isUp_0 : decode cX8_isUp 0 = .ok (.iload_n 0, 1) := by decide +kernel
theorem dX8_isUp_1 : decode cX8_isUp 1 = .ok (.iconst 1, 1) := by decide +kernel
theorem dX8_isUp_2 : decode cX8_isUp 2 = .ok (.if_icmp .lt 13, 3) := by decide +kernel
theorem dX8_isUp_5 : decode cX8_isUp 5 = .ok (.iload_n 0, 1) := by decide +kernel
theorem dX8_isUp_6 : decode cX8_isUp 6 = .ok (.bipush 9, 2) := by decide +kernel
theorem dX8_isUp_8 : decode cX8_isUp 8 = .ok (.if_icmp .gt 7, 3) := by decide +kernel
theorem dX8_isUp_11 : decode cX8_isUp 11 = .ok (.iconst 1, 1) := by decide +kernel
theorem dX8_isUp_12 : decode cX8_isUp 12 = .ok (.goto 4, 3) := by decide +kernel
theorem dX8_isUp_15 : decode cX8_isUp 15 = .ok (.iconst 0, 1) := by decide +kernel
theorem dX8_isUp_16 : decode cX8_isUp 16 = .ok (.ireturn, 1) := by decide +kernel
theorem dX8_ups_0 : decode cX8_ups 0 = .ok (.iconst 0, 1) := by decide +kernel
theorem dX8_ups_1 : decode cX8_ups 1 = .ok (.istore_n 1, 1) := by decide +kernel
theorem dX8_ups_2 : decode cX8_ups 2 = .ok (.iconst 0, 1) := by decide +kernel
theorem dX8_ups_3 : decode cX8_ups 3 = .ok (.istore_n 2, 1) := by decide +kernel
theorem dX8_ups_4 : decode cX8_ups 4 = .ok (.iload_n 2, 1) := by decide +kernel
theorem dX8_ups_5 : decode cX8_ups 5 = .ok (.aload_n 0, 1) := by decide +kernel
theorem dX8_ups_6 : decode cX8_ups 6 = .ok (.getfield 151, 3) := by decide +kernel
theorem dX8_ups_9 : decode cX8_ups 9 = .ok (.if_icmp .ge 29, 3) := by decide +kernel
theorem dX8_ups_12 : decode cX8_ups 12 = .ok (.iload_n 1, 1) := by decide +kernel
theorem dX8_ups_13 : decode cX8_ups 13 = .ok (.aload_n 0, 1) := by decide +kernel
theorem dX8_ups_14 : decode cX8_ups 14 = .ok (.getfield 72, 3) := by decide +kernel
theorem dX8_ups_17 : decode cX8_ups 17 = .ok (.iload_n 2, 1) := by decide +kernel
theorem dX8_ups_18 : decode cX8_ups 18 = .ok (.iaload, 1) := by decide +kernel
theorem dX8_ups_19 : decode cX8_ups 19 = .ok (.invokestatic 393, 3) := by decide +kernel
theorem dX8_ups_22 : decode cX8_ups 22 = .ok (.ifCond .eq 7, 3) := by decide +kernel
theorem dX8_ups_25 : decode cX8_ups 25 = .ok (.iconst 1, 1) := by decide +kernel
theorem dX8_ups_26 : decode cX8_ups 26 = .ok (.goto 4, 3) := by decide +kernel
theorem dX8_ups_29 : decode cX8_ups 29 = .ok (.iconst 0, 1) := by decide +kernel
theorem dX8_ups_30 : decode cX8_ups 30 = .ok (.iadd, 1) := by decide +kernel
theorem dX8_ups_31 : decode cX8_ups 31 = .ok (.istore_n 1, 1) := by decide +kernel
theorem dX8_ups_32 : decode cX8_ups 32 = .ok (.iinc 2 1, 3) := by decide +kernel
theorem dX8_ups_35 : decode cX8_ups 35 = .ok (.goto (-31), 3) := by decide +kernel
theorem dX8_ups_38 : decode cX8_ups 38 = .ok (.iload_n 1, 1) := by decide +kernel
theorem dX8_ups_39 : decode cX8_ups 39 = .ok (.ireturn, 1) := by decide +kernel
theorem dX8_wrap_0 : decode cX8_wrap 0 = .ok (.iload_n 1, 1) := by decide +kernel
theorem dX8_wrap_1 : decode cX8_wrap 1 = .ok (.aload_n 0, 1) := by decide +kernel
theorem dX8_wrap_2 : decode cX8_wrap 2 = .ok (.getfield 151, 3) := by decide +kernel
theorem dX8_wrap_5 : decode cX8_wrap 5 = .ok (.irem, 1) := by decide +kernel
theorem dX8_wrap_6 : decode cX8_wrap 6 = .ok (.istore_n 2, 1) := by decide +kernel
theorem dX8_wrap_7 : decode cX8_wrap 7 = .ok (.iload_n 2, 1) := by decide +kernel
theorem dX8_wrap_8 : decode cX8_wrap 8 = .ok (.ifCond .ge 12, 3) := by decide +kernel
theorem dX8_wrap_11 : decode cX8_wrap 11 = .ok (.iload_n 2, 1) := by decide +kernel
theorem dX8_wrap_12 : decode cX8_wrap 12 = .ok (.aload_n 0, 1) := by decide +kernel
theorem dX8_wrap_13 : decode cX8_wrap 13 = .ok (.getfield 151, 3) := by decide +kernel
theorem dX8_wrap_16 : decode cX8_wrap 16 = .ok (.iadd, 1) := by decide +kernel
theorem dX8_wrap_17 : decode cX8_wrap 17 = .ok (.goto 4, 3) := by decide +kernel
theorem dX8_wrap_20 : decode cX8_wrap 20 = .ok (.iload_n 2, 1) := by decide +kernel
theorem dX8_wrap_21 : decode cX8_wrap 21 = .ok (.ireturn, 1) := by decide +kernel
theorem dX8_seen_0 : decode cX8_seen 0 = .ok (.iload 4, 2) := by decide +kernel
theorem dX8_seen_2 : decode cX8_seen 2 = .ok (.aload_n 0, 1) := by decide +kernel
theorem dX8_seen_3 : decode cX8_seen 3 = .ok (.getfield 151, 3) := by decide +kernel
theorem dX8_seen_6 : decode cX8_seen 6 = .ok (.iconst 1, 1) := by decide +kernel
theorem dX8_seen_7 : decode cX8_seen 7 = .ok (.isub, 1) := by decide +kernel
theorem dX8_seen_8 : decode cX8_seen 8 = .ok (.iconst 2, 1) := by decide +kernel
theorem dX8_seen_9 : decode cX8_seen 9 = .ok (.idiv, 1) := by decide +kernel
theorem dX8_seen_10 : decode cX8_seen 10 = .ok (.if_icmp .ge 8, 3) := by decide +kernel
theorem dX8_seen_13 : decode cX8_seen 13 = .ok (.iload 4, 2) := by decide +kernel
theorem dX8_seen_15 : decode cX8_seen 15 = .ok (.goto 11, 3) := by decide +kernel
theorem dX8_seen_18 : decode cX8_seen 18 = .ok (.aload_n 0, 1) := by decide +kernel
theorem dX8_seen_19 : decode cX8_seen 19 = .ok (.getfield 151, 3) := by decide +kernel
theorem dX8_seen_22 : decode cX8_seen 22 = .ok (.iconst 1, 1) := by decide +kernel
theorem dX8_seen_23 : decode cX8_seen 23 = .ok (.isub, 1) := by decide +kernel
theorem dX8_seen_24 : decode cX8_seen 24 = .ok (.iconst 2, 1) := by decide +kernel
theorem dX8_seen_25 : decode cX8_seen 25 = .ok (.idiv, 1) := by decide +kernel
theorem dX8_seen_26 : decode cX8_seen 26 = .ok (.istore 5, 2) := by decide +kernel
theorem dX8_seen_28 : decode cX8_seen 28 = .ok (.iconst 0, 1) := by decide +kernel
theorem dX8_seen_29 : decode cX8_seen 29 = .ok (.istore 6, 2) := by decide +kernel
theorem dX8_seen_31 : decode cX8_seen 31 = .ok (.iconst 1, 1) := by decide +kernel
theorem dX8_seen_32 : decode cX8_seen 32 = .ok (.istore 7, 2) := by decide +kernel
theorem dX8_seen_34 : decode cX8_seen 34 = .ok (.iload 7, 2) := by decide +kernel
theorem dX8_seen_36 : decode cX8_seen 36 = .ok (.iload 5, 2) := by decide +kernel
theorem dX8_seen_38 : decode cX8_seen 38 = .ok (.if_icmp .gt 35, 3) := by decide +kernel
theorem dX8_seen_41 : decode cX8_seen 41 = .ok (.iload 6, 2) := by decide +kernel
theorem dX8_seen_43 : decode cX8_seen 43 = .ok (.aload_n 1, 1) := by decide +kernel
theorem dX8_seen_44 : decode cX8_seen 44 = .ok (.aload_n 0, 1) := by decide +kernel
theorem dX8_seen_45 : decode cX8_seen 45 = .ok (.iload_n 2, 1) := by decide +kernel
theorem dX8_seen_46 : decode cX8_seen 46 = .ok (.iload_n 3, 1) := by decide +kernel
theorem dX8_seen_47 : decode cX8_seen 47 = .ok (.iload 7, 2) := by decide +kernel
theorem dX8_seen_49 : decode cX8_seen 49 = .ok (.imul, 1) := by decide +kernel
theorem dX8_seen_50 : decode cX8_seen 50 = .ok (.iadd, 1) := by decide +kernel
theorem dX8_seen_51 : decode cX8_seen 51 = .ok (.invokevirtual 396, 3) := by decide +kernel
theorem dX8_seen_54 : decode cX8_seen 54 = .ok (.iaload, 1) := by decide +kernel
theorem dX8_seen_55 : decode cX8_seen 55 = .ok (.iconst 1, 1) := by decide +kernel
theorem dX8_seen_56 : decode cX8_seen 56 = .ok (.if_icmp .ne 7, 3) := by decide +kernel
theorem dX8_seen_59 : decode cX8_seen 59 = .ok (.iconst 1, 1) := by decide +kernel
theorem dX8_seen_60 : decode cX8_seen 60 = .ok (.goto 4, 3) := by decide +kernel
theorem dX8_seen_63 : decode cX8_seen 63 = .ok (.iconst 0, 1) := by decide +kernel
theorem dX8_seen_64 : decode cX8_seen 64 = .ok (.iadd, 1) := by decide +kernel
theorem dX8_seen_65 : decode cX8_seen 65 = .ok (.istore 6, 2) := by decide +kernel
theorem dX8_seen_67 : decode cX8_seen 67 = .ok (.iinc 7 1, 3) := by decide +kernel
theorem dX8_seen_70 : decode cX8_seen 70 = .ok (.goto (-36), 3) := by decide +kernel
theorem dX8_seen_73 : decode cX8_seen 73 = .ok (.iload 6, 2) := by decide +kernel
theorem dX8_seen_75 : decode cX8_seen 75 = .ok (.ireturn, 1) := by decide +kernel
theorem dX8_slackNow_0 : decode cX8_slackNow 0 = .ok (.iconst 0, 1) := by decide +kernel
theorem dX8_slackNow_1 : decode cX8_slackNow 1 = .ok (.istore_n 1, 1) := by decide +kernel
theorem dX8_slackNow_2 : decode cX8_slackNow 2 = .ok (.iload_n 1, 1) := by decide +kernel
theorem dX8_slackNow_3 : decode cX8_slackNow 3 = .ok (.aload_n 0, 1) := by decide +kernel
theorem dX8_slackNow_4 : decode cX8_slackNow 4 = .ok (.getfield 375, 3) := by decide +kernel
theorem dX8_slackNow_7 : decode cX8_slackNow 7 = .ok (.if_icmp .ge 46, 3) := by decide +kernel
theorem dX8_slackNow_10 : decode cX8_slackNow 10 = .ok (.aload_n 0, 1) := by decide +kernel
theorem dX8_slackNow_11 : decode cX8_slackNow 11 = .ok (.getfield 381, 3) := by decide +kernel
theorem dX8_slackNow_14 : decode cX8_slackNow 14 = .ok (.iconst 1, 1) := by decide +kernel
theorem dX8_slackNow_15 : decode cX8_slackNow 15 = .ok (.iadd, 1) := by decide +kernel
theorem dX8_slackNow_16 : decode cX8_slackNow 16 = .ok (.aload_n 0, 1) := by decide +kernel
theorem dX8_slackNow_17 : decode cX8_slackNow 17 = .ok (.getfield 45, 3) := by decide +kernel
theorem dX8_slackNow_20 : decode cX8_slackNow 20 = .ok (.iload_n 1, 1) := by decide +kernel
theorem dX8_slackNow_21 : decode cX8_slackNow 21 = .ok (.iaload, 1) := by decide +kernel
theorem dX8_slackNow_22 : decode cX8_slackNow 22 = .ok (.if_icmp .lt 25, 3) := by decide +kernel
theorem dX8_slackNow_25 : decode cX8_slackNow 25 = .ok (.aload_n 0, 1) := by decide +kernel
theorem dX8_slackNow_26 : decode cX8_slackNow 26 = .ok (.getfield 381, 3) := by decide +kernel
theorem dX8_slackNow_29 : decode cX8_slackNow 29 = .ok (.iconst 1, 1) := by decide +kernel
theorem dX8_slackNow_30 : decode cX8_slackNow 30 = .ok (.iadd, 1) := by decide +kernel
theorem dX8_slackNow_31 : decode cX8_slackNow 31 = .ok (.aload_n 0, 1) := by decide +kernel
theorem dX8_slackNow_32 : decode cX8_slackNow 32 = .ok (.getfield 48, 3) := by decide +kernel
theorem dX8_slackNow_35 : decode cX8_slackNow 35 = .ok (.iload_n 1, 1) := by decide +kernel
theorem dX8_slackNow_36 : decode cX8_slackNow 36 = .ok (.iaload, 1) := by decide +kernel
theorem dX8_slackNow_37 : decode cX8_slackNow 37 = .ok (.if_icmp .gt 10, 3) := by decide +kernel
theorem dX8_slackNow_40 : decode cX8_slackNow 40 = .ok (.aload_n 0, 1) := by decide +kernel
theorem dX8_slackNow_41 : decode cX8_slackNow 41 = .ok (.getfield 51, 3) := by decide +kernel
theorem dX8_slackNow_44 : decode cX8_slackNow 44 = .ok (.iload_n 1, 1) := by decide +kernel
theorem dX8_slackNow_45 : decode cX8_slackNow 45 = .ok (.iaload, 1) := by decide +kernel
theorem dX8_slackNow_46 : decode cX8_slackNow 46 = .ok (.ireturn, 1) := by decide +kernel
theorem dX8_slackNow_47 : decode cX8_slackNow 47 = .ok (.iinc 1 1, 3) := by decide +kernel
theorem dX8_slackNow_50 : decode cX8_slackNow 50 = .ok (.goto (-48), 3) := by decide +kernel
theorem dX8_slackNow_53 : decode cX8_slackNow 53 = .ok (.iconst 0, 1) := by decide +kernel
theorem dX8_slackNow_54 : decode cX8_slackNow 54 = .ok (.ireturn, 1) := by decide +kernel
theorem dX8_worked_0 : decode cX8_worked 0 = .ok (.iload_n 0, 1) := by decide +kernel
theorem dX8_worked_1 : decode cX8_worked 1 = .ok (.tableswitch 116 20 27 #[47, 61, 116, 75, 86, 97, 108, 112], 47) := by decide +kernel
theorem dX8_worked_48 : decode cX8_worked 48 = .ok (.iload_n 1, 1) := by decide +kernel
theorem dX8_worked_49 : decode cX8_worked 49 = .ok (.ifCond .ne 7, 3) := by decide +kernel
theorem dX8_worked_52 : decode cX8_worked 52 = .ok (.iload_n 2, 1) := by decide +kernel
theorem dX8_worked_53 : decode cX8_worked 53 = .ok (.ifCond .eq 7, 3) := by decide +kernel
theorem dX8_worked_56 : decode cX8_worked 56 = .ok (.iconst 1, 1) := by decide +kernel
theorem dX8_worked_57 : decode cX8_worked 57 = .ok (.goto 4, 3) := by decide +kernel
theorem dX8_worked_60 : decode cX8_worked 60 = .ok (.iconst 0, 1) := by decide +kernel
theorem dX8_worked_61 : decode cX8_worked 61 = .ok (.ireturn, 1) := by decide +kernel
theorem dX8_worked_62 : decode cX8_worked 62 = .ok (.iload_n 1, 1) := by decide +kernel
theorem dX8_worked_63 : decode cX8_worked 63 = .ok (.ifCond .eq 11, 3) := by decide +kernel
theorem dX8_worked_66 : decode cX8_worked 66 = .ok (.iload_n 2, 1) := by decide +kernel
theorem dX8_worked_67 : decode cX8_worked 67 = .ok (.ifCond .eq 7, 3) := by decide +kernel
theorem dX8_worked_70 : decode cX8_worked 70 = .ok (.iconst 1, 1) := by decide +kernel
theorem dX8_worked_71 : decode cX8_worked 71 = .ok (.goto 4, 3) := by decide +kernel
theorem dX8_worked_74 : decode cX8_worked 74 = .ok (.iconst 0, 1) := by decide +kernel
theorem dX8_worked_75 : decode cX8_worked 75 = .ok (.ireturn, 1) := by decide +kernel
theorem dX8_worked_76 : decode cX8_worked 76 = .ok (.iload_n 1, 1) := by decide +kernel
theorem dX8_worked_77 : decode cX8_worked 77 = .ok (.iload_n 2, 1) := by decide +kernel
theorem dX8_worked_78 : decode cX8_worked 78 = .ok (.if_icmp .ne 7, 3) := by decide +kernel
theorem dX8_worked_81 : decode cX8_worked 81 = .ok (.iconst 1, 1) := by decide +kernel
theorem dX8_worked_82 : decode cX8_worked 82 = .ok (.goto 4, 3) := by decide +kernel
theorem dX8_worked_85 : decode cX8_worked 85 = .ok (.iconst 0, 1) := by decide +kernel
theorem dX8_worked_86 : decode cX8_worked 86 = .ok (.ireturn, 1) := by decide +kernel
theorem dX8_worked_87 : decode cX8_worked 87 = .ok (.iload_n 1, 1) := by decide +kernel
theorem dX8_worked_88 : decode cX8_worked 88 = .ok (.iload_n 2, 1) := by decide +kernel
theorem dX8_worked_89 : decode cX8_worked 89 = .ok (.if_icmp .ge 7, 3) := by decide +kernel
theorem dX8_worked_92 : decode cX8_worked 92 = .ok (.iconst 1, 1) := by decide +kernel
theorem dX8_worked_93 : decode cX8_worked 93 = .ok (.goto 4, 3) := by decide +kernel
theorem dX8_worked_96 : decode cX8_worked 96 = .ok (.iconst 0, 1) := by decide +kernel
theorem dX8_worked_97 : decode cX8_worked 97 = .ok (.ireturn, 1) := by decide +kernel
theorem dX8_worked_98 : decode cX8_worked 98 = .ok (.iload_n 1, 1) := by decide +kernel
theorem dX8_worked_99 : decode cX8_worked 99 = .ok (.iload_n 2, 1) := by decide +kernel
theorem dX8_worked_100 : decode cX8_worked 100 = .ok (.if_icmp .le 7, 3) := by decide +kernel
theorem dX8_worked_103 : decode cX8_worked 103 = .ok (.iconst 1, 1) := by decide +kernel
theorem dX8_worked_104 : decode cX8_worked 104 = .ok (.goto 4, 3) := by decide +kernel
theorem dX8_worked_107 : decode cX8_worked 107 = .ok (.iconst 0, 1) := by decide +kernel
theorem dX8_worked_108 : decode cX8_worked 108 = .ok (.ireturn, 1) := by decide +kernel
theorem dX8_worked_109 : decode cX8_worked 109 = .ok (.iload_n 1, 1) := by decide +kernel
theorem dX8_worked_110 : decode cX8_worked 110 = .ok (.iload_n 2, 1) := by decide +kernel
theorem dX8_worked_111 : decode cX8_worked 111 = .ok (.iadd, 1) := by decide +kernel
theorem dX8_worked_112 : decode cX8_worked 112 = .ok (.ireturn, 1) := by decide +kernel
theorem dX8_worked_113 : decode cX8_worked 113 = .ok (.iload_n 1, 1) := by decide +kernel
theorem dX8_worked_114 : decode cX8_worked 114 = .ok (.iload_n 2, 1) := by decide +kernel
theorem dX8_worked_115 : decode cX8_worked 115 = .ok (.isub, 1) := by decide +kernel
theorem dX8_worked_116 : decode cX8_worked 116 = .ok (.ireturn, 1) := by decide +kernel
theorem dX8_worked_117 : decode cX8_worked 117 = .ok (.iload_n 1, 1) := by decide +kernel
theorem dX8_worked_118 : decode cX8_worked 118 = .ok (.iload_n 2, 1) := by decide +kernel
theorem dX8_worked_119 : decode cX8_worked 119 = .ok (.imul, 1) := by decide +kernel
theorem dX8_worked_120 : decode cX8_worked 120 = .ok (.ireturn, 1) := by decide +kernel
theorem dX8_askedOf_0 : decode cX8_askedOf 0 = .ok (.aload_n 0, 1) := by decide +kernel
theorem dX8_askedOf_1 : decode cX8_askedOf 1 = .ok (.getfield 60, 3) := by decide +kernel
theorem dX8_askedOf_4 : decode cX8_askedOf 4 = .ok (.iload_n 2, 1) := by decide +kernel
theorem dX8_askedOf_5 : decode cX8_askedOf 5 = .ok (.iaload, 1) := by decide +kernel
theorem dX8_askedOf_6 : decode cX8_askedOf 6 = .ok (.tableswitch 98 0 6 #[42, 49, 64, 79, 84, 89, 96], 42) := by decide +kernel
theorem dX8_askedOf_48 : decode cX8_askedOf 48 = .ok (.aload_n 0, 1) := by decide +kernel
theorem dX8_askedOf_49 : decode cX8_askedOf 49 = .ok (.getfield 63, 3) := by decide +kernel
theorem dX8_askedOf_52 : decode cX8_askedOf 52 = .ok (.iload_n 2, 1) := by decide +kernel
theorem dX8_askedOf_53 : decode cX8_askedOf 53 = .ok (.iaload, 1) := by decide +kernel
theorem dX8_askedOf_54 : decode cX8_askedOf 54 = .ok (.ireturn, 1) := by decide +kernel
theorem dX8_askedOf_55 : decode cX8_askedOf 55 = .ok (.aload_n 0, 1) := by decide +kernel
theorem dX8_askedOf_56 : decode cX8_askedOf 56 = .ok (.aload_n 0, 1) := by decide +kernel
theorem dX8_askedOf_57 : decode cX8_askedOf 57 = .ok (.getfield 72, 3) := by decide +kernel
theorem dX8_askedOf_60 : decode cX8_askedOf 60 = .ok (.iload_n 1, 1) := by decide +kernel
theorem dX8_askedOf_61 : decode cX8_askedOf 61 = .ok (.iconst (-1), 1) := by decide +kernel
theorem dX8_askedOf_62 : decode cX8_askedOf 62 = .ok (.aload_n 0, 1) := by decide +kernel
theorem dX8_askedOf_63 : decode cX8_askedOf 63 = .ok (.getfield 360, 3) := by decide +kernel
theorem dX8_askedOf_66 : decode cX8_askedOf 66 = .ok (.invokevirtual 399, 3) := by decide +kernel
theorem dX8_askedOf_69 : decode cX8_askedOf 69 = .ok (.ireturn, 1) := by decide +kernel
theorem dX8_askedOf_70 : decode cX8_askedOf 70 = .ok (.aload_n 0, 1) := by decide +kernel
theorem dX8_askedOf_71 : decode cX8_askedOf 71 = .ok (.aload_n 0, 1) := by decide +kernel
theorem dX8_askedOf_72 : decode cX8_askedOf 72 = .ok (.getfield 72, 3) := by decide +kernel
theorem dX8_askedOf_75 : decode cX8_askedOf 75 = .ok (.iload_n 1, 1) := by decide +kernel
theorem dX8_askedOf_76 : decode cX8_askedOf 76 = .ok (.iconst 1, 1) := by decide +kernel
theorem dX8_askedOf_77 : decode cX8_askedOf 77 = .ok (.aload_n 0, 1) := by decide +kernel
theorem dX8_askedOf_78 : decode cX8_askedOf 78 = .ok (.getfield 360, 3) := by decide +kernel
theorem dX8_askedOf_81 : decode cX8_askedOf 81 = .ok (.invokevirtual 399, 3) := by decide +kernel
theorem dX8_askedOf_84 : decode cX8_askedOf 84 = .ok (.ireturn, 1) := by decide +kernel
theorem dX8_askedOf_85 : decode cX8_askedOf 85 = .ok (.aload_n 0, 1) := by decide +kernel
theorem dX8_askedOf_86 : decode cX8_askedOf 86 = .ok (.invokevirtual 403, 3) := by decide +kernel
theorem dX8_askedOf_89 : decode cX8_askedOf 89 = .ok (.ireturn, 1) := by decide +kernel
theorem dX8_askedOf_90 : decode cX8_askedOf 90 = .ok (.aload_n 0, 1) := by decide +kernel
theorem dX8_askedOf_91 : decode cX8_askedOf 91 = .ok (.getfield 384, 3) := by decide +kernel
theorem dX8_askedOf_94 : decode cX8_askedOf 94 = .ok (.ireturn, 1) := by decide +kernel
theorem dX8_askedOf_95 : decode cX8_askedOf 95 = .ok (.aload_n 0, 1) := by decide +kernel
theorem dX8_askedOf_96 : decode cX8_askedOf 96 = .ok (.getfield 75, 3) := by decide +kernel
theorem dX8_askedOf_99 : decode cX8_askedOf 99 = .ok (.iload_n 1, 1) := by decide +kernel
theorem dX8_askedOf_100 : decode cX8_askedOf 100 = .ok (.iaload, 1) := by decide +kernel
theorem dX8_askedOf_101 : decode cX8_askedOf 101 = .ok (.ireturn, 1) := by decide +kernel
theorem dX8_askedOf_102 : decode cX8_askedOf 102 = .ok (.iload_n 3, 1) := by decide +kernel
theorem dX8_askedOf_103 : decode cX8_askedOf 103 = .ok (.ireturn, 1) := by decide +kernel
theorem dX8_askedOf_104 : decode cX8_askedOf 104 = .ok (.aload_n 0, 1) := by decide +kernel
theorem dX8_askedOf_105 : decode cX8_askedOf 105 = .ok (.getfield 381, 3) := by decide +kernel
theorem dX8_askedOf_108 : decode cX8_askedOf 108 = .ok (.iconst 1, 1) := by decide +kernel
theorem dX8_askedOf_109 : decode cX8_askedOf 109 = .ok (.iadd, 1) := by decide +kernel
theorem dX8_askedOf_110 : decode cX8_askedOf 110 = .ok (.ireturn, 1) := by decide +kernel
theorem dX8_wants_0 : decode cX8_wants 0 = .ok (.aload_n 0, 1) := by decide +kernel
theorem dX8_wants_1 : decode cX8_wants 1 = .ok (.getfield 72, 3) := by decide +kernel
theorem dX8_wants_4 : decode cX8_wants 4 = .ok (.iload_n 1, 1) := by decide +kernel
theorem dX8_wants_5 : decode cX8_wants 5 = .ok (.iaload, 1) := by decide +kernel
theorem dX8_wants_6 : decode cX8_wants 6 = .ok (.ifCond .ne 21, 3) := by decide +kernel
theorem dX8_wants_9 : decode cX8_wants 9 = .ok (.aload_n 0, 1) := by decide +kernel
theorem dX8_wants_10 : decode cX8_wants 10 = .ok (.getfield 27, 3) := by decide +kernel
theorem dX8_wants_13 : decode cX8_wants 13 = .ok (.iload_n 1, 1) := by decide +kernel
theorem dX8_wants_14 : decode cX8_wants 14 = .ok (.baload, 1) := by decide +kernel
theorem dX8_wants_15 : decode cX8_wants 15 = .ok (.ifCond .ne 12, 3) := by decide +kernel
theorem dX8_wants_18 : decode cX8_wants 18 = .ok (.aload_n 0, 1) := by decide +kernel
theorem dX8_wants_19 : decode cX8_wants 19 = .ok (.getfield 93, 3) := by decide +kernel
theorem dX8_wants_22 : decode cX8_wants 22 = .ok (.iload_n 1, 1) := by decide +kernel
theorem dX8_wants_23 : decode cX8_wants 23 = .ok (.baload, 1) := by decide +kernel
theorem dX8_wants_24 : decode cX8_wants 24 = .ok (.ifCond .eq 5, 3) := by decide +kernel
theorem dX8_wants_27 : decode cX8_wants 27 = .ok (.iconst 0, 1) := by decide +kernel
theorem dX8_wants_28 : decode cX8_wants 28 = .ok (.ireturn, 1) := by decide +kernel
theorem dX8_wants_29 : decode cX8_wants 29 = .ok (.iconst 0, 1) := by decide +kernel
theorem dX8_wants_30 : decode cX8_wants 30 = .ok (.istore_n 3, 1) := by decide +kernel
theorem dX8_wants_31 : decode cX8_wants 31 = .ok (.iconst 0, 1) := by decide +kernel
theorem dX8_wants_32 : decode cX8_wants 32 = .ok (.istore 4, 2) := by decide +kernel
theorem dX8_wants_34 : decode cX8_wants 34 = .ok (.iload 4, 2) := by decide +kernel
theorem dX8_wants_36 : decode cX8_wants 36 = .ok (.aload_n 0, 1) := by decide +kernel
theorem dX8_wants_37 : decode cX8_wants 37 = .ok (.getfield 369, 3) := by decide +kernel
theorem dX8_wants_40 : decode cX8_wants 40 = .ok (.if_icmp .ge 115, 3) := by decide +kernel
theorem dX8_wants_43 : decode cX8_wants 43 = .ok (.aload_n 0, 1) := by decide +kernel
theorem dX8_wants_44 : decode cX8_wants 44 = .ok (.getfield 60, 3) := by decide +kernel
theorem dX8_wants_47 : decode cX8_wants 47 = .ok (.iload 4, 2) := by decide +kernel
theorem dX8_wants_49 : decode cX8_wants 49 = .ok (.iaload, 1) := by decide +kernel
theorem dX8_wants_50 : decode cX8_wants 50 = .ok (.bipush 20, 2) := by decide +kernel
theorem dX8_wants_52 : decode cX8_wants 52 = .ok (.if_icmp .ge 23, 3) := by decide +kernel
theorem dX8_wants_55 : decode cX8_wants 55 = .ok (.aload_n 0, 1) := by decide +kernel
theorem dX8_wants_56 : decode cX8_wants 56 = .ok (.getfield 69, 3) := by decide +kernel
theorem dX8_wants_59 : decode cX8_wants 59 = .ok (.iload_n 3, 1) := by decide +kernel
theorem dX8_wants_60 : decode cX8_wants 60 = .ok (.aload_n 0, 1) := by decide +kernel
theorem dX8_wants_61 : decode cX8_wants 61 = .ok (.iload_n 1, 1) := by decide +kernel
theorem dX8_wants_62 : decode cX8_wants 62 = .ok (.iload 4, 2) := by decide +kernel
theorem dX8_wants_64 : decode cX8_wants 64 = .ok (.iload_n 2, 1) := by decide +kernel
theorem dX8_wants_65 : decode cX8_wants 65 = .ok (.invokevirtual 406, 3) := by decide +kernel
theorem dX8_wants_68 : decode cX8_wants 68 = .ok (.iastore, 1) := by decide +kernel
theorem dX8_wants_69 : decode cX8_wants 69 = .ok (.iinc 3 1, 3) := by decide +kernel
theorem dX8_wants_72 : decode cX8_wants 72 = .ok (.goto 77, 3) := by decide +kernel
theorem dX8_wants_75 : decode cX8_wants 75 = .ok (.aload_n 0, 1) := by decide +kernel
theorem dX8_wants_76 : decode cX8_wants 76 = .ok (.getfield 60, 3) := by decide +kernel
theorem dX8_wants_79 : decode cX8_wants 79 = .ok (.iload 4, 2) := by decide +kernel
theorem dX8_wants_81 : decode cX8_wants 81 = .ok (.iaload, 1) := by decide +kernel
theorem dX8_wants_82 : decode cX8_wants 82 = .ok (.bipush 22, 2) := by decide +kernel
theorem dX8_wants_84 : decode cX8_wants 84 = .ok (.if_icmp .ne 30, 3) := by decide +kernel
theorem dX8_wants_87 : decode cX8_wants 87 = .ok (.aload_n 0, 1) := by decide +kernel
theorem dX8_wants_88 : decode cX8_wants 88 = .ok (.getfield 69, 3) := by decide +kernel
theorem dX8_wants_91 : decode cX8_wants 91 = .ok (.iload_n 3, 1) := by decide +kernel
theorem dX8_wants_92 : decode cX8_wants 92 = .ok (.iconst 1, 1) := by decide +kernel
theorem dX8_wants_93 : decode cX8_wants 93 = .ok (.isub, 1) := by decide +kernel
theorem dX8_wants_94 : decode cX8_wants 94 = .ok (.aload_n 0, 1) := by decide +kernel
theorem dX8_wants_95 : decode cX8_wants 95 = .ok (.getfield 69, 3) := by decide +kernel
theorem dX8_wants_98 : decode cX8_wants 98 = .ok (.iload_n 3, 1) := by decide +kernel
theorem dX8_wants_99 : decode cX8_wants 99 = .ok (.iconst 1, 1) := by decide +kernel
theorem dX8_wants_100 : decode cX8_wants 100 = .ok (.isub, 1) := by decide +kernel
theorem dX8_wants_101 : decode cX8_wants 101 = .ok (.iaload, 1) := by decide +kernel
theorem dX8_wants_102 : decode cX8_wants 102 = .ok (.ifCond .ne 7, 3) := by decide +kernel
theorem dX8_wants_105 : decode cX8_wants 105 = .ok (.iconst 1, 1) := by decide +kernel
theorem dX8_wants_106 : decode cX8_wants 106 = .ok (.goto 4, 3) := by decide +kernel
theorem dX8_wants_109 : decode cX8_wants 109 = .ok (.iconst 0, 1) := by decide +kernel
theorem dX8_wants_110 : decode cX8_wants 110 = .ok (.iastore, 1) := by decide +kernel
theorem dX8_wants_111 : decode cX8_wants 111 = .ok (.goto 38, 3) := by decide +kernel
theorem dX8_wants_114 : decode cX8_wants 114 = .ok (.iinc 3 (-1), 3) := by decide +kernel
theorem dX8_wants_117 : decode cX8_wants 117 = .ok (.aload_n 0, 1) := by decide +kernel
theorem dX8_wants_118 : decode cX8_wants 118 = .ok (.getfield 69, 3) := by decide +kernel
theorem dX8_wants_121 : decode cX8_wants 121 = .ok (.iload_n 3, 1) := by decide +kernel
theorem dX8_wants_122 : decode cX8_wants 122 = .ok (.iconst 1, 1) := by decide +kernel
theorem dX8_wants_123 : decode cX8_wants 123 = .ok (.isub, 1) := by decide +kernel
theorem dX8_wants_124 : decode cX8_wants 124 = .ok (.aload_n 0, 1) := by decide +kernel
theorem dX8_wants_125 : decode cX8_wants 125 = .ok (.getfield 60, 3) := by decide +kernel
theorem dX8_wants_128 : decode cX8_wants 128 = .ok (.iload 4, 2) := by decide +kernel
theorem dX8_wants_130 : decode cX8_wants 130 = .ok (.iaload, 1) := by decide +kernel
theorem dX8_wants_131 : decode cX8_wants 131 = .ok (.aload_n 0, 1) := by decide +kernel
theorem dX8_wants_132 : decode cX8_wants 132 = .ok (.getfield 69, 3) := by decide +kernel
theorem dX8_wants_135 : decode cX8_wants 135 = .ok (.iload_n 3, 1) := by decide +kernel
theorem dX8_wants_136 : decode cX8_wants 136 = .ok (.iconst 1, 1) := by decide +kernel
theorem dX8_wants_137 : decode cX8_wants 137 = .ok (.isub, 1) := by decide +kernel
theorem dX8_wants_138 : decode cX8_wants 138 = .ok (.iaload, 1) := by decide +kernel
theorem dX8_wants_139 : decode cX8_wants 139 = .ok (.aload_n 0, 1) := by decide +kernel
theorem dX8_wants_140 : decode cX8_wants 140 = .ok (.getfield 69, 3) := by decide +kernel
theorem dX8_wants_143 : decode cX8_wants 143 = .ok (.iload_n 3, 1) := by decide +kernel
theorem dX8_wants_144 : decode cX8_wants 144 = .ok (.iaload, 1) := by decide +kernel
theorem dX8_wants_145 : decode cX8_wants 145 = .ok (.invokestatic 410, 3) := by decide +kernel
theorem dX8_wants_148 : decode cX8_wants 148 = .ok (.iastore, 1) := by decide +kernel
theorem dX8_wants_149 : decode cX8_wants 149 = .ok (.iinc 4 1, 3) := by decide +kernel
theorem dX8_wants_152 : decode cX8_wants 152 = .ok (.goto (-118), 3) := by decide +kernel
theorem dX8_wants_155 : decode cX8_wants 155 = .ok (.aload_n 0, 1) := by decide +kernel
theorem dX8_wants_156 : decode cX8_wants 156 = .ok (.getfield 69, 3) := by decide +kernel
theorem dX8_wants_159 : decode cX8_wants 159 = .ok (.iconst 0, 1) := by decide +kernel
theorem dX8_wants_160 : decode cX8_wants 160 = .ok (.iaload, 1) := by decide +kernel
theorem dX8_wants_161 : decode cX8_wants 161 = .ok (.ifCond .eq 7, 3) := by decide +kernel
theorem dX8_wants_164 : decode cX8_wants 164 = .ok (.iconst 1, 1) := by decide +kernel
theorem dX8_wants_165 : decode cX8_wants 165 = .ok (.goto 4, 3) := by decide +kernel
theorem dX8_wants_168 : decode cX8_wants 168 = .ok (.iconst 0, 1) := by decide +kernel
theorem dX8_wants_169 : decode cX8_wants 169 = .ok (.ireturn, 1) := by decide +kernel
theorem dX8_draw_0 : decode cX8_draw 0 = .ok (.aload_n 0, 1) := by decide +kernel
theorem dX8_draw_1 : decode cX8_draw 1 = .ok (.aload_n 0, 1) := by decide +kernel
theorem dX8_draw_2 : decode cX8_draw 2 = .ok (.getfield 96, 3) := by decide +kernel
theorem dX8_draw_5 : decode cX8_draw 5 = .ok (.ldc_w 413, 3) := by decide +kernel
theorem dX8_draw_8 : decode cX8_draw 8 = .ok (.imul, 1) := by decide +kernel
theorem dX8_draw_9 : decode cX8_draw 9 = .ok (.sipush 12345, 3) := by decide +kernel
theorem dX8_draw_12 : decode cX8_draw 12 = .ok (.iadd, 1) := by decide +kernel
theorem dX8_draw_13 : decode cX8_draw 13 = .ok (.putfield 96, 3) := by decide +kernel
theorem dX8_draw_16 : decode cX8_draw 16 = .ok (.aload_n 0, 1) := by decide +kernel
theorem dX8_draw_17 : decode cX8_draw 17 = .ok (.getfield 96, 3) := by decide +kernel
theorem dX8_draw_20 : decode cX8_draw 20 = .ok (.bipush 16, 2) := by decide +kernel
theorem dX8_draw_22 : decode cX8_draw 22 = .ok (.iushr, 1) := by decide +kernel
theorem dX8_draw_23 : decode cX8_draw 23 = .ok (.iload_n 1, 1) := by decide +kernel
theorem dX8_draw_24 : decode cX8_draw 24 = .ok (.irem, 1) := by decide +kernel
theorem dX8_draw_25 : decode cX8_draw 25 = .ok (.ireturn, 1) := by decide +kernel
theorem dX8_behind_0 : decode cX8_behind 0 = .ok (.iload_n 0, 1) := by decide +kernel
theorem dX8_behind_1 : decode cX8_behind 1 = .ok (.invokestatic 393, 3) := by decide +kernel
theorem dX8_behind_4 : decode cX8_behind 4 = .ok (.ifCond .eq 25, 3) := by decide +kernel
theorem dX8_behind_7 : decode cX8_behind 7 = .ok (.iload_n 0, 1) := by decide +kernel
theorem dX8_behind_8 : decode cX8_behind 8 = .ok (.iload_n 1, 1) := by decide +kernel
theorem dX8_behind_9 : decode cX8_behind 9 = .ok (.if_icmp .ge 9, 3) := by decide +kernel
theorem dX8_behind_12 : decode cX8_behind 12 = .ok (.iload_n 0, 1) := by decide +kernel
theorem dX8_behind_13 : decode cX8_behind 13 = .ok (.iconst 1, 1) := by decide +kernel
theorem dX8_behind_14 : decode cX8_behind 14 = .ok (.iadd, 1) := by decide +kernel
theorem dX8_behind_15 : decode cX8_behind 15 = .ok (.goto 13, 3) := by decide +kernel
theorem dX8_behind_18 : decode cX8_behind 18 = .ok (.iload_n 2, 1) := by decide +kernel
theorem dX8_behind_19 : decode cX8_behind 19 = .ok (.ifCond .le 8, 3) := by decide +kernel
theorem dX8_behind_22 : decode cX8_behind 22 = .ok (.bipush 11, 2) := by decide +kernel
theorem dX8_behind_24 : decode cX8_behind 24 = .ok (.goto 4, 3) := by decide +kernel
theorem dX8_behind_27 : decode cX8_behind 27 = .ok (.iconst 0, 1) := by decide +kernel
theorem dX8_behind_28 : decode cX8_behind 28 = .ok (.ireturn, 1) := by decide +kernel
theorem dX8_behind_29 : decode cX8_behind 29 = .ok (.iload_n 0, 1) := by decide +kernel
theorem dX8_behind_30 : decode cX8_behind 30 = .ok (.bipush 10, 2) := by decide +kernel
theorem dX8_behind_32 : decode cX8_behind 32 = .ok (.if_icmp .le 25, 3) := by decide +kernel
theorem dX8_behind_35 : decode cX8_behind 35 = .ok (.iload_n 0, 1) := by decide +kernel
theorem dX8_behind_36 : decode cX8_behind 36 = .ok (.bipush 40, 2) := by decide +kernel
theorem dX8_behind_38 : decode cX8_behind 38 = .ok (.if_icmp .ge 19, 3) := by decide +kernel
theorem dX8_behind_41 : decode cX8_behind 41 = .ok (.iload_n 0, 1) := by decide +kernel
theorem dX8_behind_42 : decode cX8_behind 42 = .ok (.bipush 10, 2) := by decide +kernel
theorem dX8_behind_44 : decode cX8_behind 44 = .ok (.iload_n 2, 1) := by decide +kernel
theorem dX8_behind_45 : decode cX8_behind 45 = .ok (.iadd, 1) := by decide +kernel
theorem dX8_behind_46 : decode cX8_behind 46 = .ok (.if_icmp .ge 9, 3) := by decide +kernel
theorem dX8_behind_49 : decode cX8_behind 49 = .ok (.iload_n 0, 1) := by decide +kernel
theorem dX8_behind_50 : decode cX8_behind 50 = .ok (.iconst 1, 1) := by decide +kernel
theorem dX8_behind_51 : decode cX8_behind 51 = .ok (.iadd, 1) := by decide +kernel
theorem dX8_behind_52 : decode cX8_behind 52 = .ok (.goto 4, 3) := by decide +kernel
theorem dX8_behind_55 : decode cX8_behind 55 = .ok (.iconst 0, 1) := by decide +kernel
theorem dX8_behind_56 : decode cX8_behind 56 = .ok (.ireturn, 1) := by decide +kernel
theorem dX8_behind_57 : decode cX8_behind 57 = .ok (.iload_n 0, 1) := by decide +kernel
theorem dX8_behind_58 : decode cX8_behind 58 = .ok (.ireturn, 1) := by decide +kernel
theorem dX8_step_0 : decode cX8_step 0 = .ok (.aload_n 0, 1) := by decide +kernel
theorem dX8_step_1 : decode cX8_step 1 = .ok (.invokevirtual 414, 3) := by decide +kernel
theorem dX8_step_4 : decode cX8_step 4 = .ok (.istore_n 2, 1) := by decide +kernel
theorem dX8_step_5 : decode cX8_step 5 = .ok (.iconst 0, 1) := by decide +kernel
theorem dX8_step_6 : decode cX8_step 6 = .ok (.istore_n 3, 1) := by decide +kernel
theorem dX8_step_7 : decode cX8_step 7 = .ok (.iconst 0, 1) := by decide +kernel
theorem dX8_step_8 : decode cX8_step 8 = .ok (.istore 4, 2) := by decide +kernel
theorem dX8_step_10 : decode cX8_step 10 = .ok (.iload 4, 2) := by decide +kernel
theorem dX8_step_12 : decode cX8_step 12 = .ok (.aload_n 0, 1) := by decide +kernel
theorem dX8_step_13 : decode cX8_step 13 = .ok (.getfield 151, 3) := by decide +kernel
theorem dX8_step_16 : decode cX8_step 16 = .ok (.if_icmp .ge 183, 3) := by decide +kernel
theorem dX8_step_19 : decode cX8_step 19 = .ok (.aload_n 0, 1) := by decide +kernel
theorem dX8_step_20 : decode cX8_step 20 = .ok (.iload 4, 2) := by decide +kernel
theorem dX8_step_22 : decode cX8_step 22 = .ok (.iload_n 2, 1) := by decide +kernel
theorem dX8_step_23 : decode cX8_step 23 = .ok (.invokevirtual 417, 3) := by decide +kernel
theorem dX8_step_26 : decode cX8_step 26 = .ok (.ifCond .eq 31, 3) := by decide +kernel
theorem dX8_step_29 : decode cX8_step 29 = .ok (.iload_n 1, 1) := by decide +kernel
theorem dX8_step_30 : decode cX8_step 30 = .ok (.ifCond .eq 23, 3) := by decide +kernel
theorem dX8_step_33 : decode cX8_step 33 = .ok (.aload_n 0, 1) := by decide +kernel
theorem dX8_step_34 : decode cX8_step 34 = .ok (.getfield 363, 3) := by decide +kernel
theorem dX8_step_37 : decode cX8_step 37 = .ok (.ifCond .le 16, 3) := by decide +kernel
theorem dX8_step_40 : decode cX8_step 40 = .ok (.aload_n 0, 1) := by decide +kernel
theorem dX8_step_41 : decode cX8_step 41 = .ok (.bipush 10, 2) := by decide +kernel
theorem dX8_step_43 : decode cX8_step 43 = .ok (.invokevirtual 421, 3) := by decide +kernel
theorem dX8_step_46 : decode cX8_step 46 = .ok (.aload_n 0, 1) := by decide +kernel
theorem dX8_step_47 : decode cX8_step 47 = .ok (.getfield 363, 3) := by decide +kernel
theorem dX8_step_50 : decode cX8_step 50 = .ok (.if_icmp .lt 7, 3) := by decide +kernel
theorem dX8_step_53 : decode cX8_step 53 = .ok (.iconst 1, 1) := by decide +kernel
theorem dX8_step_54 : decode cX8_step 54 = .ok (.goto 4, 3) := by decide +kernel
theorem dX8_step_57 : decode cX8_step 57 = .ok (.iconst 0, 1) := by decide +kernel
theorem dX8_step_58 : decode cX8_step 58 = .ok (.istore 5, 2) := by decide +kernel
theorem dX8_step_60 : decode cX8_step 60 = .ok (.aload_n 0, 1) := by decide +kernel
theorem dX8_step_61 : decode cX8_step 61 = .ok (.getfield 78, 3) := by decide +kernel
theorem dX8_step_64 : decode cX8_step 64 = .ok (.iload 4, 2) := by decide +kernel
theorem dX8_step_66 : decode cX8_step 66 = .ok (.iload 5, 2) := by decide +kernel
theorem dX8_step_68 : decode cX8_step 68 = .ok (.ifCond .eq 7, 3) := by decide +kernel
theorem dX8_step_71 : decode cX8_step 71 = .ok (.iconst 1, 1) := by decide +kernel
theorem dX8_step_72 : decode cX8_step 72 = .ok (.goto 21, 3) := by decide +kernel
theorem dX8_step_75 : decode cX8_step 75 = .ok (.aload_n 0, 1) := by decide +kernel
theorem dX8_step_76 : decode cX8_step 76 = .ok (.getfield 72, 3) := by decide +kernel
theorem dX8_step_79 : decode cX8_step 79 = .ok (.iload 4, 2) := by decide +kernel
theorem dX8_step_81 : decode cX8_step 81 = .ok (.iaload, 1) := by decide +kernel
theorem dX8_step_82 : decode cX8_step 82 = .ok (.aload_n 0, 1) := by decide +kernel
theorem dX8_step_83 : decode cX8_step 83 = .ok (.getfield 354, 3) := by decide +kernel
theorem dX8_step_86 : decode cX8_step 86 = .ok (.aload_n 0, 1) := by decide +kernel
theorem dX8_step_87 : decode cX8_step 87 = .ok (.getfield 357, 3) := by decide +kernel
theorem dX8_step_90 : decode cX8_step 90 = .ok (.invokestatic 424, 3) := by decide +kernel
theorem dX8_step_93 : decode cX8_step 93 = .ok (.iastore, 1) := by decide +kernel
theorem dX8_step_94 : decode cX8_step 94 = .ok (.iload 5, 2) := by decide +kernel
theorem dX8_step_96 : decode cX8_step 96 = .ok (.ifCond .ne 6, 3) := by decide +kernel
theorem dX8_step_99 : decode cX8_step 99 = .ok (.goto 94, 3) := by decide +kernel
theorem dX8_step_102 : decode cX8_step 102 = .ok (.iinc 3 1, 3) := by decide +kernel
theorem dX8_step_105 : decode cX8_step 105 = .ok (.aload_n 0, 1) := by decide +kernel
theorem dX8_step_106 : decode cX8_step 106 = .ok (.aload_n 0, 1) := by decide +kernel
theorem dX8_step_107 : decode cX8_step 107 = .ok (.getfield 72, 3) := by decide +kernel
theorem dX8_step_110 : decode cX8_step 110 = .ok (.iload 4, 2) := by decide +kernel
theorem dX8_step_112 : decode cX8_step 112 = .ok (.iconst (-1), 1) := by decide +kernel
theorem dX8_step_113 : decode cX8_step 113 = .ok (.aload_n 0, 1) := by decide +kernel
theorem dX8_step_114 : decode cX8_step 114 = .ok (.getfield 360, 3) := by decide +kernel
theorem dX8_step_117 : decode cX8_step 117 = .ok (.invokevirtual 399, 3) := by decide +kernel
theorem dX8_step_120 : decode cX8_step 120 = .ok (.ifCond .le 7, 3) := by decide +kernel
theorem dX8_step_123 : decode cX8_step 123 = .ok (.iconst 1, 1) := by decide +kernel
theorem dX8_step_124 : decode cX8_step 124 = .ok (.goto 4, 3) := by decide +kernel
theorem dX8_step_127 : decode cX8_step 127 = .ok (.iconst 0, 1) := by decide +kernel
theorem dX8_step_128 : decode cX8_step 128 = .ok (.istore 6, 2) := by decide +kernel
theorem dX8_step_130 : decode cX8_step 130 = .ok (.aload_n 0, 1) := by decide +kernel
theorem dX8_step_131 : decode cX8_step 131 = .ok (.aload_n 0, 1) := by decide +kernel
theorem dX8_step_132 : decode cX8_step 132 = .ok (.getfield 72, 3) := by decide +kernel
theorem dX8_step_135 : decode cX8_step 135 = .ok (.iload 4, 2) := by decide +kernel
theorem dX8_step_137 : decode cX8_step 137 = .ok (.iconst 1, 1) := by decide +kernel
theorem dX8_step_138 : decode cX8_step 138 = .ok (.aload_n 0, 1) := by decide +kernel
theorem dX8_step_139 : decode cX8_step 139 = .ok (.getfield 360, 3) := by decide +kernel
theorem dX8_step_142 : decode cX8_step 142 = .ok (.invokevirtual 399, 3) := by decide +kernel
theorem dX8_step_145 : decode cX8_step 145 = .ok (.ifCond .le 7, 3) := by decide +kernel
theorem dX8_step_148 : decode cX8_step 148 = .ok (.iconst 1, 1) := by decide +kernel
theorem dX8_step_149 : decode cX8_step 149 = .ok (.goto 4, 3) := by decide +kernel
theorem dX8_step_152 : decode cX8_step 152 = .ok (.iconst 0, 1) := by decide +kernel
theorem dX8_step_153 : decode cX8_step 153 = .ok (.istore 7, 2) := by decide +kernel
theorem dX8_step_155 : decode cX8_step 155 = .ok (.aload_n 0, 1) := by decide +kernel
theorem dX8_step_156 : decode cX8_step 156 = .ok (.getfield 87, 3) := by decide +kernel
theorem dX8_step_159 : decode cX8_step 159 = .ok (.iload 6, 2) := by decide +kernel
theorem dX8_step_161 : decode cX8_step 161 = .ok (.ifCond .eq 12, 3) := by decide +kernel
theorem dX8_step_164 : decode cX8_step 164 = .ok (.iload 7, 2) := by decide +kernel
theorem dX8_step_166 : decode cX8_step 166 = .ok (.ifCond .ne 7, 3) := by decide +kernel
theorem dX8_step_169 : decode cX8_step 169 = .ok (.iconst 0, 1) := by decide +kernel
theorem dX8_step_170 : decode cX8_step 170 = .ok (.goto 18, 3) := by decide +kernel
theorem dX8_step_173 : decode cX8_step 173 = .ok (.iload 7, 2) := by decide +kernel
theorem dX8_step_175 : decode cX8_step 175 = .ok (.ifCond .eq 12, 3) := by decide +kernel
theorem dX8_step_178 : decode cX8_step 178 = .ok (.iload 6, 2) := by decide +kernel
theorem dX8_step_180 : decode cX8_step 180 = .ok (.ifCond .ne 7, 3) := by decide +kernel
theorem dX8_step_183 : decode cX8_step 183 = .ok (.iconst 1, 1) := by decide +kernel
theorem dX8_step_184 : decode cX8_step 184 = .ok (.goto 4, 3) := by decide +kernel
theorem dX8_step_187 : decode cX8_step 187 = .ok (.iconst 2, 1) := by decide +kernel
theorem dX8_step_188 : decode cX8_step 188 = .ok (.dup2, 1) := by decide +kernel
theorem dX8_step_189 : decode cX8_step 189 = .ok (.iaload, 1) := by decide +kernel
theorem dX8_step_190 : decode cX8_step 190 = .ok (.iconst 1, 1) := by decide +kernel
theorem dX8_step_191 : decode cX8_step 191 = .ok (.iadd, 1) := by decide +kernel
theorem dX8_step_192 : decode cX8_step 192 = .ok (.iastore, 1) := by decide +kernel
theorem dX8_step_193 : decode cX8_step 193 = .ok (.iinc 4 1, 3) := by decide +kernel
theorem dX8_step_196 : decode cX8_step 196 = .ok (.goto (-186), 3) := by decide +kernel
theorem dX8_step_199 : decode cX8_step 199 = .ok (.iconst 0, 1) := by decide +kernel
theorem dX8_step_200 : decode cX8_step 200 = .ok (.istore 4, 2) := by decide +kernel
theorem dX8_step_202 : decode cX8_step 202 = .ok (.iload 4, 2) := by decide +kernel
theorem dX8_step_204 : decode cX8_step 204 = .ok (.aload_n 0, 1) := by decide +kernel
theorem dX8_step_205 : decode cX8_step 205 = .ok (.getfield 151, 3) := by decide +kernel
theorem dX8_step_208 : decode cX8_step 208 = .ok (.if_icmp .ge 49, 3) := by decide +kernel
theorem dX8_step_211 : decode cX8_step 211 = .ok (.aload_n 0, 1) := by decide +kernel
theorem dX8_step_212 : decode cX8_step 212 = .ok (.getfield 75, 3) := by decide +kernel
theorem dX8_step_215 : decode cX8_step 215 = .ok (.iload 4, 2) := by decide +kernel
theorem dX8_step_217 : decode cX8_step 217 = .ok (.dup2, 1) := by decide +kernel
theorem dX8_step_218 : decode cX8_step 218 = .ok (.iaload, 1) := by decide +kernel
theorem dX8_step_219 : decode cX8_step 219 = .ok (.aload_n 0, 1) := by decide +kernel
theorem dX8_step_220 : decode cX8_step 220 = .ok (.getfield 78, 3) := by decide +kernel
theorem dX8_step_223 : decode cX8_step 223 = .ok (.iload 4, 2) := by decide +kernel
theorem dX8_step_225 : decode cX8_step 225 = .ok (.iaload, 1) := by decide +kernel
theorem dX8_step_226 : decode cX8_step 226 = .ok (.iconst 1, 1) := by decide +kernel
theorem dX8_step_227 : decode cX8_step 227 = .ok (.if_icmp .ne 7, 3) := by decide +kernel
theorem dX8_step_230 : decode cX8_step 230 = .ok (.iconst 1, 1) := by decide +kernel
theorem dX8_step_231 : decode cX8_step 231 = .ok (.goto 4, 3) := by decide +kernel
theorem dX8_step_234 : decode cX8_step 234 = .ok (.iconst 0, 1) := by decide +kernel
theorem dX8_step_235 : decode cX8_step 235 = .ok (.iadd, 1) := by decide +kernel
theorem dX8_step_236 : decode cX8_step 236 = .ok (.iastore, 1) := by decide +kernel
theorem dX8_step_237 : decode cX8_step 237 = .ok (.aload_n 0, 1) := by decide +kernel
theorem dX8_step_238 : decode cX8_step 238 = .ok (.getfield 72, 3) := by decide +kernel
theorem dX8_step_241 : decode cX8_step 241 = .ok (.iload 4, 2) := by decide +kernel
theorem dX8_step_243 : decode cX8_step 243 = .ok (.aload_n 0, 1) := by decide +kernel
theorem dX8_step_244 : decode cX8_step 244 = .ok (.getfield 78, 3) := by decide +kernel
theorem dX8_step_247 : decode cX8_step 247 = .ok (.iload 4, 2) := by decide +kernel
theorem dX8_step_249 : decode cX8_step 249 = .ok (.iaload, 1) := by decide +kernel
theorem dX8_step_250 : decode cX8_step 250 = .ok (.iastore, 1) := by decide +kernel
theorem dX8_step_251 : decode cX8_step 251 = .ok (.iinc 4 1, 3) := by decide +kernel
theorem dX8_step_254 : decode cX8_step 254 = .ok (.goto (-52), 3) := by decide +kernel
theorem dX8_step_257 : decode cX8_step 257 = .ok (.aload_n 0, 1) := by decide +kernel
theorem dX8_step_258 : decode cX8_step 258 = .ok (.dup, 1) := by decide +kernel
theorem dX8_step_259 : decode cX8_step 259 = .ok (.getfield 381, 3) := by decide +kernel
theorem dX8_step_262 : decode cX8_step 262 = .ok (.iconst 1, 1) := by decide +kernel
theorem dX8_step_263 : decode cX8_step 263 = .ok (.iadd, 1) := by decide +kernel
theorem dX8_step_264 : decode cX8_step 264 = .ok (.putfield 381, 3) := by decide +kernel
theorem dX8_step_267 : decode cX8_step 267 = .ok (.iload_n 3, 1) := by decide +kernel
theorem dX8_step_268 : decode cX8_step 268 = .ok (.ireturn, 1) := by decide +kernel
theorem dX8_tries_0 : decode cX8_tries 0 = .ok (.aload_n 0, 1) := by decide +kernel
theorem dX8_tries_1 : decode cX8_tries 1 = .ok (.getfield 72, 3) := by decide +kernel
theorem dX8_tries_4 : decode cX8_tries 4 = .ok (.iload_n 1, 1) := by decide +kernel
theorem dX8_tries_5 : decode cX8_tries 5 = .ok (.iaload, 1) := by decide +kernel
theorem dX8_tries_6 : decode cX8_tries 6 = .ok (.ifCond .eq 5, 3) := by decide +kernel
theorem dX8_tries_9 : decode cX8_tries 9 = .ok (.iconst 0, 1) := by decide +kernel
theorem dX8_tries_10 : decode cX8_tries 10 = .ok (.ireturn, 1) := by decide +kernel
theorem dX8_tries_11 : decode cX8_tries 11 = .ok (.aload_n 0, 1) := by decide +kernel
theorem dX8_tries_12 : decode cX8_tries 12 = .ok (.getfield 72, 3) := by decide +kernel
theorem dX8_tries_15 : decode cX8_tries 15 = .ok (.iload_n 1, 1) := by decide +kernel
theorem dX8_tries_16 : decode cX8_tries 16 = .ok (.iconst 1, 1) := by decide +kernel
theorem dX8_tries_17 : decode cX8_tries 17 = .ok (.iastore, 1) := by decide +kernel
theorem dX8_tries_18 : decode cX8_tries 18 = .ok (.aload_n 0, 1) := by decide +kernel
theorem dX8_tries_19 : decode cX8_tries 19 = .ok (.getfield 75, 3) := by decide +kernel
theorem dX8_tries_22 : decode cX8_tries 22 = .ok (.iload_n 1, 1) := by decide +kernel
theorem dX8_tries_23 : decode cX8_tries 23 = .ok (.dup2, 1) := by decide +kernel
theorem dX8_tries_24 : decode cX8_tries 24 = .ok (.iaload, 1) := by decide +kernel
theorem dX8_tries_25 : decode cX8_tries 25 = .ok (.iconst 1, 1) := by decide +kernel
theorem dX8_tries_26 : decode cX8_tries 26 = .ok (.iadd, 1) := by decide +kernel
theorem dX8_tries_27 : decode cX8_tries 27 = .ok (.iastore, 1) := by decide +kernel
theorem dX8_tries_28 : decode cX8_tries 28 = .ok (.iconst 1, 1) := by decide +kernel
theorem dX8_tries_29 : decode cX8_tries 29 = .ok (.ireturn, 1) := by decide +kernel
theorem dX8_tryNow_0 : decode cX8_tryNow 0 = .ok (.iconst 0, 1) := by decide +kernel
theorem dX8_tryNow_1 : decode cX8_tryNow 1 = .ok (.istore_n 1, 1) := by decide +kernel
theorem dX8_tryNow_2 : decode cX8_tryNow 2 = .ok (.iconst 0, 1) := by decide +kernel
theorem dX8_tryNow_3 : decode cX8_tryNow 3 = .ok (.istore_n 2, 1) := by decide +kernel
theorem dX8_tryNow_4 : decode cX8_tryNow 4 = .ok (.iload_n 2, 1) := by decide +kernel
theorem dX8_tryNow_5 : decode cX8_tryNow 5 = .ok (.aload_n 0, 1) := by decide +kernel
theorem dX8_tryNow_6 : decode cX8_tryNow 6 = .ok (.getfield 151, 3) := by decide +kernel
theorem dX8_tryNow_9 : decode cX8_tryNow 9 = .ok (.if_icmp .ge 34, 3) := by decide +kernel
theorem dX8_tryNow_12 : decode cX8_tryNow 12 = .ok (.iload_n 1, 1) := by decide +kernel
theorem dX8_tryNow_13 : decode cX8_tryNow 13 = .ok (.aload_n 0, 1) := by decide +kernel
theorem dX8_tryNow_14 : decode cX8_tryNow 14 = .ok (.getfield 33, 3) := by decide +kernel
theorem dX8_tryNow_17 : decode cX8_tryNow 17 = .ok (.iload_n 2, 1) := by decide +kernel
theorem dX8_tryNow_18 : decode cX8_tryNow 18 = .ok (.baload, 1) := by decide +kernel
theorem dX8_tryNow_19 : decode cX8_tryNow 19 = .ok (.ifCond .eq 15, 3) := by decide +kernel
theorem dX8_tryNow_22 : decode cX8_tryNow 22 = .ok (.aload_n 0, 1) := by decide +kernel
theorem dX8_tryNow_23 : decode cX8_tryNow 23 = .ok (.iload_n 2, 1) := by decide +kernel
theorem dX8_tryNow_24 : decode cX8_tryNow 24 = .ok (.invokevirtual 427, 3) := by decide +kernel
theorem dX8_tryNow_27 : decode cX8_tryNow 27 = .ok (.ifCond .eq 7, 3) := by decide +kernel
theorem dX8_tryNow_30 : decode cX8_tryNow 30 = .ok (.iconst 1, 1) := by decide +kernel
theorem dX8_tryNow_31 : decode cX8_tryNow 31 = .ok (.goto 4, 3) := by decide +kernel
theorem dX8_tryNow_34 : decode cX8_tryNow 34 = .ok (.iconst 0, 1) := by decide +kernel
theorem dX8_tryNow_35 : decode cX8_tryNow 35 = .ok (.iadd, 1) := by decide +kernel
theorem dX8_tryNow_36 : decode cX8_tryNow 36 = .ok (.istore_n 1, 1) := by decide +kernel
theorem dX8_tryNow_37 : decode cX8_tryNow 37 = .ok (.iinc 2 1, 3) := by decide +kernel
theorem dX8_tryNow_40 : decode cX8_tryNow 40 = .ok (.goto (-36), 3) := by decide +kernel
theorem dX8_tryNow_43 : decode cX8_tryNow 43 = .ok (.aload_n 0, 1) := by decide +kernel
theorem dX8_tryNow_44 : decode cX8_tryNow 44 = .ok (.dup, 1) := by decide +kernel
theorem dX8_tryNow_45 : decode cX8_tryNow 45 = .ok (.getfield 384, 3) := by decide +kernel
theorem dX8_tryNow_48 : decode cX8_tryNow 48 = .ok (.iconst 1, 1) := by decide +kernel
theorem dX8_tryNow_49 : decode cX8_tryNow 49 = .ok (.iadd, 1) := by decide +kernel
theorem dX8_tryNow_50 : decode cX8_tryNow 50 = .ok (.putfield 384, 3) := by decide +kernel
theorem dX8_tryNow_53 : decode cX8_tryNow 53 = .ok (.iload_n 1, 1) := by decide +kernel
theorem dX8_tryNow_54 : decode cX8_tryNow 54 = .ok (.ireturn, 1) := by decide +kernel
theorem dX8_run_0 : decode cX8_run 0 = .ok (.iload_n 1, 1) := by decide +kernel
theorem dX8_run_1 : decode cX8_run 1 = .ok (.ifCond .lt 22, 3) := by decide +kernel
theorem dX8_run_4 : decode cX8_run 4 = .ok (.iload_n 1, 1) := by decide +kernel
theorem dX8_run_5 : decode cX8_run 5 = .ok (.sipush 400, 3) := by decide +kernel
theorem dX8_run_8 : decode cX8_run 8 = .ok (.if_icmp .gt 15, 3) := by decide +kernel
theorem dX8_run_11 : decode cX8_run 11 = .ok (.aload_n 0, 1) := by decide +kernel
theorem dX8_run_12 : decode cX8_run 12 = .ok (.getfield 381, 3) := by decide +kernel
theorem dX8_run_15 : decode cX8_run 15 = .ok (.iload_n 1, 1) := by decide +kernel
theorem dX8_run_16 : decode cX8_run 16 = .ok (.iadd, 1) := by decide +kernel
theorem dX8_run_17 : decode cX8_run 17 = .ok (.ldc_w 430, 3) := by decide +kernel
theorem dX8_run_20 : decode cX8_run 20 = .ok (.if_icmp .le 5, 3) := by decide +kernel
theorem dX8_run_23 : decode cX8_run 23 = .ok (.iconst (-1), 1) := by decide +kernel
theorem dX8_run_24 : decode cX8_run 24 = .ok (.ireturn, 1) := by decide +kernel
theorem dX8_run_25 : decode cX8_run 25 = .ok (.iconst 0, 1) := by decide +kernel
theorem dX8_run_26 : decode cX8_run 26 = .ok (.istore_n 2, 1) := by decide +kernel
theorem dX8_run_27 : decode cX8_run 27 = .ok (.iconst 0, 1) := by decide +kernel
theorem dX8_run_28 : decode cX8_run 28 = .ok (.istore_n 3, 1) := by decide +kernel
theorem dX8_run_29 : decode cX8_run 29 = .ok (.iload_n 3, 1) := by decide +kernel
theorem dX8_run_30 : decode cX8_run 30 = .ok (.iload_n 1, 1) := by decide +kernel
theorem dX8_run_31 : decode cX8_run 31 = .ok (.if_icmp .ge 17, 3) := by decide +kernel
theorem dX8_run_34 : decode cX8_run 34 = .ok (.iload_n 2, 1) := by decide +kernel
theorem dX8_run_35 : decode cX8_run 35 = .ok (.aload_n 0, 1) := by decide +kernel
theorem dX8_run_36 : decode cX8_run 36 = .ok (.iconst 1, 1) := by decide +kernel
theorem dX8_run_37 : decode cX8_run 37 = .ok (.invokevirtual 431, 3) := by decide +kernel
theorem dX8_run_40 : decode cX8_run 40 = .ok (.iadd, 1) := by decide +kernel
theorem dX8_run_41 : decode cX8_run 41 = .ok (.istore_n 2, 1) := by decide +kernel
theorem dX8_run_42 : decode cX8_run 42 = .ok (.iinc 3 1, 3) := by decide +kernel
theorem dX8_run_45 : decode cX8_run 45 = .ok (.goto (-16), 3) := by decide +kernel
theorem dX8_run_48 : decode cX8_run 48 = .ok (.iload_n 2, 1) := by decide +kernel
theorem dX8_run_49 : decode cX8_run 49 = .ok (.ireturn, 1) := by decide +kernel
theorem dX8_isSeat_0 : decode cX8_isSeat 0 = .ok (.iload_n 1, 1) := by decide +kernel
theorem dX8_isSeat_1 : decode cX8_isSeat 1 = .ok (.ifCond .lt 15, 3) := by decide +kernel
theorem dX8_isSeat_4 : decode cX8_isSeat 4 = .ok (.iload_n 1, 1) := by decide +kernel
theorem dX8_isSeat_5 : decode cX8_isSeat 5 = .ok (.aload_n 0, 1) := by decide +kernel
theorem dX8_isSeat_6 : decode cX8_isSeat 6 = .ok (.getfield 151, 3) := by decide +kernel
theorem dX8_isSeat_9 : decode cX8_isSeat 9 = .ok (.if_icmp .ge 7, 3) := by decide +kernel
theorem dX8_isSeat_12 : decode cX8_isSeat 12 = .ok (.iconst 1, 1) := by decide +kernel
theorem dX8_isSeat_13 : decode cX8_isSeat 13 = .ok (.goto 4, 3) := by decide +kernel
theorem dX8_isSeat_16 : decode cX8_isSeat 16 = .ok (.iconst 0, 1) := by decide +kernel
theorem dX8_isSeat_17 : decode cX8_isSeat 17 = .ok (.ireturn, 1) := by decide +kernel
theorem dX8_seat_0 : decode cX8_seat 0 = .ok (.aload_n 0, 1) := by decide +kernel
theorem dX8_seat_1 : decode cX8_seat 1 = .ok (.iload_n 1, 1) := by decide +kernel
theorem dX8_seat_2 : decode cX8_seat 2 = .ok (.invokevirtual 435, 3) := by decide +kernel
theorem dX8_seat_5 : decode cX8_seat 5 = .ok (.ifCond .ne 5, 3) := by decide +kernel
theorem dX8_seat_8 : decode cX8_seat 8 = .ok (.iconst (-1), 1) := by decide +kernel
theorem dX8_seat_9 : decode cX8_seat 9 = .ok (.ireturn, 1) := by decide +kernel
theorem dX8_seat_10 : decode cX8_seat 10 = .ok (.iload_n 2, 1) := by decide +kernel
theorem dX8_seat_11 : decode cX8_seat 11 = .ok (.tableswitch 86 0 3 #[29, 36, 43, 71], 29) := by decide +kernel
theorem dX8_seat_40 : decode cX8_seat 40 = .ok (.aload_n 0, 1) := by decide +kernel
theorem dX8_seat_41 : decode cX8_seat 41 = .ok (.getfield 72, 3) := by decide +kernel
theorem dX8_seat_44 : decode cX8_seat 44 = .ok (.iload_n 1, 1) := by decide +kernel
theorem dX8_seat_45 : decode cX8_seat 45 = .ok (.iaload, 1) := by decide +kernel
theorem dX8_seat_46 : decode cX8_seat 46 = .ok (.ireturn, 1) := by decide +kernel
theorem dX8_seat_47 : decode cX8_seat 47 = .ok (.aload_n 0, 1) := by decide +kernel
theorem dX8_seat_48 : decode cX8_seat 48 = .ok (.getfield 75, 3) := by decide +kernel
theorem dX8_seat_51 : decode cX8_seat 51 = .ok (.iload_n 1, 1) := by decide +kernel
theorem dX8_seat_52 : decode cX8_seat 52 = .ok (.iaload, 1) := by decide +kernel
theorem dX8_seat_53 : decode cX8_seat 53 = .ok (.ireturn, 1) := by decide +kernel
theorem dX8_seat_54 : decode cX8_seat 54 = .ok (.aload_n 0, 1) := by decide +kernel
theorem dX8_seat_55 : decode cX8_seat 55 = .ok (.getfield 30, 3) := by decide +kernel
theorem dX8_seat_58 : decode cX8_seat 58 = .ok (.iload_n 1, 1) := by decide +kernel
theorem dX8_seat_59 : decode cX8_seat 59 = .ok (.baload, 1) := by decide +kernel
theorem dX8_seat_60 : decode cX8_seat 60 = .ok (.ifCond .eq 7, 3) := by decide +kernel
theorem dX8_seat_63 : decode cX8_seat 63 = .ok (.iconst 2, 1) := by decide +kernel
theorem dX8_seat_64 : decode cX8_seat 64 = .ok (.goto 17, 3) := by decide +kernel
theorem dX8_seat_67 : decode cX8_seat 67 = .ok (.aload_n 0, 1) := by decide +kernel
theorem dX8_seat_68 : decode cX8_seat 68 = .ok (.getfield 27, 3) := by decide +kernel
theorem dX8_seat_71 : decode cX8_seat 71 = .ok (.iload_n 1, 1) := by decide +kernel
theorem dX8_seat_72 : decode cX8_seat 72 = .ok (.baload, 1) := by decide +kernel
theorem dX8_seat_73 : decode cX8_seat 73 = .ok (.ifCond .eq 7, 3) := by decide +kernel
theorem dX8_seat_76 : decode cX8_seat 76 = .ok (.iconst 1, 1) := by decide +kernel
theorem dX8_seat_77 : decode cX8_seat 77 = .ok (.goto 4, 3) := by decide +kernel
theorem dX8_seat_80 : decode cX8_seat 80 = .ok (.iconst 0, 1) := by decide +kernel
theorem dX8_seat_81 : decode cX8_seat 81 = .ok (.ireturn, 1) := by decide +kernel
theorem dX8_seat_82 : decode cX8_seat 82 = .ok (.aload_n 0, 1) := by decide +kernel
theorem dX8_seat_83 : decode cX8_seat 83 = .ok (.getfield 33, 3) := by decide +kernel
theorem dX8_seat_86 : decode cX8_seat 86 = .ok (.iload_n 1, 1) := by decide +kernel
theorem dX8_seat_87 : decode cX8_seat 87 = .ok (.baload, 1) := by decide +kernel
theorem dX8_seat_88 : decode cX8_seat 88 = .ok (.ifCond .eq 7, 3) := by decide +kernel
theorem dX8_seat_91 : decode cX8_seat 91 = .ok (.iconst 1, 1) := by decide +kernel
theorem dX8_seat_92 : decode cX8_seat 92 = .ok (.goto 4, 3) := by decide +kernel
theorem dX8_seat_95 : decode cX8_seat 95 = .ok (.iconst 0, 1) := by decide +kernel
theorem dX8_seat_96 : decode cX8_seat 96 = .ok (.ireturn, 1) := by decide +kernel
theorem dX8_seat_97 : decode cX8_seat 97 = .ok (.iconst (-1), 1) := by decide +kernel
theorem dX8_seat_98 : decode cX8_seat 98 = .ok (.ireturn, 1) := by decide +kernel
theorem dX8_wouldRise_0 : decode cX8_wouldRise 0 = .ok (.aload_n 0, 1) := by decide +kernel
theorem dX8_wouldRise_1 : decode cX8_wouldRise 1 = .ok (.invokevirtual 414, 3) := by decide +kernel
theorem dX8_wouldRise_4 : decode cX8_wouldRise 4 = .ok (.istore_n 1, 1) := by decide +kernel
theorem dX8_wouldRise_5 : decode cX8_wouldRise 5 = .ok (.iconst 0, 1) := by decide +kernel
theorem dX8_wouldRise_6 : decode cX8_wouldRise 6 = .ok (.istore_n 2, 1) := by decide +kernel
theorem dX8_wouldRise_7 : decode cX8_wouldRise 7 = .ok (.iconst 0, 1) := by decide +kernel
theorem dX8_wouldRise_8 : decode cX8_wouldRise 8 = .ok (.istore_n 3, 1) := by decide +kernel
theorem dX8_wouldRise_9 : decode cX8_wouldRise 9 = .ok (.iload_n 3, 1) := by decide +kernel
theorem dX8_wouldRise_10 : decode cX8_wouldRise 10 = .ok (.aload_n 0, 1) := by decide +kernel
theorem dX8_wouldRise_11 : decode cX8_wouldRise 11 = .ok (.getfield 151, 3) := by decide +kernel
theorem dX8_wouldRise_14 : decode cX8_wouldRise 14 = .ok (.if_icmp .ge 26, 3) := by decide +kernel
theorem dX8_wouldRise_17 : decode cX8_wouldRise 17 = .ok (.iload_n 2, 1) := by decide +kernel
theorem dX8_wouldRise_18 : decode cX8_wouldRise 18 = .ok (.aload_n 0, 1) := by decide +kernel
theorem dX8_wouldRise_19 : decode cX8_wouldRise 19 = .ok (.iload_n 3, 1) := by decide +kernel
theorem dX8_wouldRise_20 : decode cX8_wouldRise 20 = .ok (.iload_n 1, 1) := by decide +kernel
theorem dX8_wouldRise_21 : decode cX8_wouldRise 21 = .ok (.invokevirtual 417, 3) := by decide +kernel
theorem dX8_wouldRise_24 : decode cX8_wouldRise 24 = .ok (.ifCond .eq 7, 3) := by decide +kernel
theorem dX8_wouldRise_27 : decode cX8_wouldRise 27 = .ok (.iconst 1, 1) := by decide +kernel
theorem dX8_wouldRise_28 : decode cX8_wouldRise 28 = .ok (.goto 4, 3) := by decide +kernel
theorem dX8_wouldRise_31 : decode cX8_wouldRise 31 = .ok (.iconst 0, 1) := by decide +kernel
theorem dX8_wouldRise_32 : decode cX8_wouldRise 32 = .ok (.iadd, 1) := by decide +kernel
theorem dX8_wouldRise_33 : decode cX8_wouldRise 33 = .ok (.istore_n 2, 1) := by decide +kernel
theorem dX8_wouldRise_34 : decode cX8_wouldRise 34 = .ok (.iinc 3 1, 3) := by decide +kernel
theorem dX8_wouldRise_37 : decode cX8_wouldRise 37 = .ok (.goto (-28), 3) := by decide +kernel
theorem dX8_wouldRise_40 : decode cX8_wouldRise 40 = .ok (.iload_n 2, 1) := by decide +kernel
theorem dX8_wouldRise_41 : decode cX8_wouldRise 41 = .ok (.ireturn, 1) := by decide +kernel
theorem dX8_would_0 : decode cX8_would 0 = .ok (.aload_n 0, 1) := by decide +kernel
theorem dX8_would_1 : decode cX8_would 1 = .ok (.invokevirtual 438, 3) := by decide +kernel
theorem dX8_would_4 : decode cX8_would 4 = .ok (.ireturn, 1) := by decide +kernel
theorem dX8_way_0 : decode cX8_way 0 = .ok (.iload_n 1, 1) := by decide +kernel
theorem dX8_way_1 : decode cX8_way 1 = .ok (.ifCond .lt 8, 3) := by decide +kernel
theorem dX8_way_4 : decode cX8_way 4 = .ok (.iload_n 1, 1) := by decide +kernel
theorem dX8_way_5 : decode cX8_way 5 = .ok (.iconst 2, 1) := by decide +kernel
theorem dX8_way_6 : decode cX8_way 6 = .ok (.if_icmp .le 7, 3) := by decide +kernel
theorem dX8_way_9 : decode cX8_way 9 = .ok (.iconst (-1), 1) := by decide +kernel
theorem dX8_way_10 : decode cX8_way 10 = .ok (.goto 9, 3) := by decide +kernel
theorem dX8_way_13 : decode cX8_way 13 = .ok (.aload_n 0, 1) := by decide +kernel
theorem dX8_way_14 : decode cX8_way 14 = .ok (.getfield 87, 3) := by decide +kernel
theorem dX8_way_17 : decode cX8_way 17 = .ok (.iload_n 1, 1) := by decide +kernel
theorem dX8_way_18 : decode cX8_way 18 = .ok (.iaload, 1) := by decide +kernel
theorem dX8_way_19 : decode cX8_way 19 = .ok (.ireturn, 1) := by decide +kernel
theorem dX8_wide_0 : decode cX8_wide 0 = .ok (.iconst 0, 1) := by decide +kernel
theorem dX8_wide_1 : decode cX8_wide 1 = .ok (.istore_n 1, 1) := by decide +kernel
theorem dX8_wide_2 : decode cX8_wide 2 = .ok (.iconst 0, 1) := by decide +kernel
theorem dX8_wide_3 : decode cX8_wide 3 = .ok (.istore_n 2, 1) := by decide +kernel
theorem dX8_wide_4 : decode cX8_wide 4 = .ok (.iconst 0, 1) := by decide +kernel
theorem dX8_wide_5 : decode cX8_wide 5 = .ok (.istore_n 3, 1) := by decide +kernel
theorem dX8_wide_6 : decode cX8_wide 6 = .ok (.iload_n 3, 1) := by decide +kernel
theorem dX8_wide_7 : decode cX8_wide 7 = .ok (.iconst 2, 1) := by decide +kernel
theorem dX8_wide_8 : decode cX8_wide 8 = .ok (.aload_n 0, 1) := by decide +kernel
theorem dX8_wide_9 : decode cX8_wide 9 = .ok (.getfield 151, 3) := by decide +kernel
theorem dX8_wide_12 : decode cX8_wide 12 = .ok (.imul, 1) := by decide +kernel
theorem dX8_wide_13 : decode cX8_wide 13 = .ok (.if_icmp .ge 45, 3) := by decide +kernel
theorem dX8_wide_16 : decode cX8_wide 16 = .ok (.aload_n 0, 1) := by decide +kernel
theorem dX8_wide_17 : decode cX8_wide 17 = .ok (.getfield 72, 3) := by decide +kernel
theorem dX8_wide_20 : decode cX8_wide 20 = .ok (.iload_n 3, 1) := by decide +kernel
theorem dX8_wide_21 : decode cX8_wide 21 = .ok (.aload_n 0, 1) := by decide +kernel
theorem dX8_wide_22 : decode cX8_wide 22 = .ok (.getfield 151, 3) := by decide +kernel
theorem dX8_wide_25 : decode cX8_wide 25 = .ok (.irem, 1) := by decide +kernel
theorem dX8_wide_26 : decode cX8_wide 26 = .ok (.iaload, 1) := by decide +kernel
theorem dX8_wide_27 : decode cX8_wide 27 = .ok (.invokestatic 393, 3) := by decide +kernel
theorem dX8_wide_30 : decode cX8_wide 30 = .ok (.ifCond .eq 9, 3) := by decide +kernel
theorem dX8_wide_33 : decode cX8_wide 33 = .ok (.iload_n 2, 1) := by decide +kernel
theorem dX8_wide_34 : decode cX8_wide 34 = .ok (.iconst 1, 1) := by decide +kernel
theorem dX8_wide_35 : decode cX8_wide 35 = .ok (.iadd, 1) := by decide +kernel
theorem dX8_wide_36 : decode cX8_wide 36 = .ok (.goto 4, 3) := by decide +kernel
theorem dX8_wide_39 : decode cX8_wide 39 = .ok (.iconst 0, 1) := by decide +kernel
theorem dX8_wide_40 : decode cX8_wide 40 = .ok (.istore_n 2, 1) := by decide +kernel
theorem dX8_wide_41 : decode cX8_wide 41 = .ok (.iload_n 2, 1) := by decide +kernel
theorem dX8_wide_42 : decode cX8_wide 42 = .ok (.iload_n 1, 1) := by decide +kernel
theorem dX8_wide_43 : decode cX8_wide 43 = .ok (.if_icmp .le 7, 3) := by decide +kernel
theorem dX8_wide_46 : decode cX8_wide 46 = .ok (.iload_n 2, 1) := by decide +kernel
theorem dX8_wide_47 : decode cX8_wide 47 = .ok (.goto 4, 3) := by decide +kernel
theorem dX8_wide_50 : decode cX8_wide 50 = .ok (.iload_n 1, 1) := by decide +kernel
theorem dX8_wide_51 : decode cX8_wide 51 = .ok (.istore_n 1, 1) := by decide +kernel
theorem dX8_wide_52 : decode cX8_wide 52 = .ok (.iinc 3 1, 3) := by decide +kernel
theorem dX8_wide_55 : decode cX8_wide 55 = .ok (.goto (-49), 3) := by decide +kernel
theorem dX8_wide_58 : decode cX8_wide 58 = .ok (.iload_n 1, 1) := by decide +kernel
theorem dX8_wide_59 : decode cX8_wide 59 = .ok (.aload_n 0, 1) := by decide +kernel
theorem dX8_wide_60 : decode cX8_wide 60 = .ok (.getfield 151, 3) := by decide +kernel
theorem dX8_wide_63 : decode cX8_wide 63 = .ok (.if_icmp .le 10, 3) := by decide +kernel
theorem dX8_wide_66 : decode cX8_wide 66 = .ok (.aload_n 0, 1) := by decide +kernel
theorem dX8_wide_67 : decode cX8_wide 67 = .ok (.getfield 151, 3) := by decide +kernel
theorem dX8_wide_70 : decode cX8_wide 70 = .ok (.goto 4, 3) := by decide +kernel
theorem dX8_wide_73 : decode cX8_wide 73 = .ok (.iload_n 1, 1) := by decide +kernel
theorem dX8_wide_74 : decode cX8_wide 74 = .ok (.ireturn, 1) := by decide +kernel
theorem dX8_waveMany_0 : decode cX8_waveMany 0 = .ok (.iconst 0, 1) := by decide +kernel
theorem dX8_waveMany_1 : decode cX8_waveMany 1 = .ok (.istore_n 1, 1) := by decide +kernel
theorem dX8_waveMany_2 : decode cX8_waveMany 2 = .ok (.iconst 0, 1) := by decide +kernel
theorem dX8_waveMany_3 : decode cX8_waveMany 3 = .ok (.istore_n 2, 1) := by decide +kernel
theorem dX8_waveMany_4 : decode cX8_waveMany 4 = .ok (.iload_n 2, 1) := by decide +kernel
theorem dX8_waveMany_5 : decode cX8_waveMany 5 = .ok (.aload_n 0, 1) := by decide +kernel
theorem dX8_waveMany_6 : decode cX8_waveMany 6 = .ok (.getfield 151, 3) := by decide +kernel
theorem dX8_waveMany_9 : decode cX8_waveMany 9 = .ok (.if_icmp .ge 47, 3) := by decide +kernel
theorem dX8_waveMany_12 : decode cX8_waveMany 12 = .ok (.iload_n 1, 1) := by decide +kernel
theorem dX8_waveMany_13 : decode cX8_waveMany 13 = .ok (.aload_n 0, 1) := by decide +kernel
theorem dX8_waveMany_14 : decode cX8_waveMany 14 = .ok (.getfield 72, 3) := by decide +kernel
theorem dX8_waveMany_17 : decode cX8_waveMany 17 = .ok (.iload_n 2, 1) := by decide +kernel
theorem dX8_waveMany_18 : decode cX8_waveMany 18 = .ok (.iaload, 1) := by decide +kernel
theorem dX8_waveMany_19 : decode cX8_waveMany 19 = .ok (.invokestatic 393, 3) := by decide +kernel
theorem dX8_waveMany_22 : decode cX8_waveMany 22 = .ok (.ifCond .eq 25, 3) := by decide +kernel
theorem dX8_waveMany_25 : decode cX8_waveMany 25 = .ok (.aload_n 0, 1) := by decide +kernel
theorem dX8_waveMany_26 : decode cX8_waveMany 26 = .ok (.getfield 72, 3) := by decide +kernel
theorem dX8_waveMany_29 : decode cX8_waveMany 29 = .ok (.aload_n 0, 1) := by decide +kernel
theorem dX8_waveMany_30 : decode cX8_waveMany 30 = .ok (.iload_n 2, 1) := by decide +kernel
theorem dX8_waveMany_31 : decode cX8_waveMany 31 = .ok (.iconst 1, 1) := by decide +kernel
theorem dX8_waveMany_32 : decode cX8_waveMany 32 = .ok (.isub, 1) := by decide +kernel
theorem dX8_waveMany_33 : decode cX8_waveMany 33 = .ok (.invokevirtual 396, 3) := by decide +kernel
theorem dX8_waveMany_36 : decode cX8_waveMany 36 = .ok (.iaload, 1) := by decide +kernel
theorem dX8_waveMany_37 : decode cX8_waveMany 37 = .ok (.invokestatic 393, 3) := by decide +kernel
theorem dX8_waveMany_40 : decode cX8_waveMany 40 = .ok (.ifCond .ne 7, 3) := by decide +kernel
theorem dX8_waveMany_43 : decode cX8_waveMany 43 = .ok (.iconst 1, 1) := by decide +kernel
theorem dX8_waveMany_44 : decode cX8_waveMany 44 = .ok (.goto 4, 3) := by decide +kernel
theorem dX8_waveMany_47 : decode cX8_waveMany 47 = .ok (.iconst 0, 1) := by decide +kernel
theorem dX8_waveMany_48 : decode cX8_waveMany 48 = .ok (.iadd, 1) := by decide +kernel
theorem dX8_waveMany_49 : decode cX8_waveMany 49 = .ok (.istore_n 1, 1) := by decide +kernel
theorem dX8_waveMany_50 : decode cX8_waveMany 50 = .ok (.iinc 2 1, 3) := by decide +kernel
theorem dX8_waveMany_53 : decode cX8_waveMany 53 = .ok (.goto (-49), 3) := by decide +kernel
theorem dX8_waveMany_56 : decode cX8_waveMany 56 = .ok (.iload_n 1, 1) := by decide +kernel
theorem dX8_waveMany_57 : decode cX8_waveMany 57 = .ok (.ifCond .ne 19, 3) := by decide +kernel
theorem dX8_waveMany_60 : decode cX8_waveMany 60 = .ok (.aload_n 0, 1) := by decide +kernel
theorem dX8_waveMany_61 : decode cX8_waveMany 61 = .ok (.getfield 72, 3) := by decide +kernel
theorem dX8_waveMany_64 : decode cX8_waveMany 64 = .ok (.iconst 0, 1) := by decide +kernel
theorem dX8_waveMany_65 : decode cX8_waveMany 65 = .ok (.iaload, 1) := by decide +kernel
theorem dX8_waveMany_66 : decode cX8_waveMany 66 = .ok (.invokestatic 393, 3) := by decide +kernel
theorem dX8_waveMany_69 : decode cX8_waveMany 69 = .ok (.ifCond .eq 7, 3) := by decide +kernel
theorem dX8_waveMany_72 : decode cX8_waveMany 72 = .ok (.iconst 1, 1) := by decide +kernel
theorem dX8_waveMany_73 : decode cX8_waveMany 73 = .ok (.goto 4, 3) := by decide +kernel
theorem dX8_waveMany_76 : decode cX8_waveMany 76 = .ok (.iload_n 1, 1) := by decide +kernel
theorem dX8_waveMany_77 : decode cX8_waveMany 77 = .ok (.ireturn, 1) := by decide +kernel
theorem dX8_waves_0 : decode cX8_waves 0 = .ok (.aload_n 0, 1) := by decide +kernel
theorem dX8_waves_1 : decode cX8_waves 1 = .ok (.invokevirtual 441, 3) := by decide +kernel
theorem dX8_waves_4 : decode cX8_waves 4 = .ok (.ireturn, 1) := by decide +kernel
theorem dX8_till_0 : decode cX8_till 0 = .ok (.aload_n 0, 1) := by decide +kernel
theorem dX8_till_1 : decode cX8_till 1 = .ok (.iload_n 1, 1) := by decide +kernel
theorem dX8_till_2 : decode cX8_till 2 = .ok (.invokevirtual 435, 3) := by decide +kernel
theorem dX8_till_5 : decode cX8_till 5 = .ok (.ifCond .eq 14, 3) := by decide +kernel
theorem dX8_till_8 : decode cX8_till 8 = .ok (.iload_n 2, 1) := by decide +kernel
theorem dX8_till_9 : decode cX8_till 9 = .ok (.iconst 1, 1) := by decide +kernel
theorem dX8_till_10 : decode cX8_till 10 = .ok (.if_icmp .lt 9, 3) := by decide +kernel
theorem dX8_till_13 : decode cX8_till 13 = .ok (.iload_n 2, 1) := by decide +kernel
theorem dX8_till_14 : decode cX8_till 14 = .ok (.bipush 9, 2) := by decide +kernel
theorem dX8_till_16 : decode cX8_till 16 = .ok (.if_icmp .le 5, 3) := by decide +kernel
theorem dX8_till_19 : decode cX8_till 19 = .ok (.iconst (-1), 1) := by decide +kernel
theorem dX8_till_20 : decode cX8_till 20 = .ok (.ireturn, 1) := by decide +kernel
theorem dX8_till_21 : decode cX8_till 21 = .ok (.aload_n 0, 1) := by decide +kernel
theorem dX8_till_22 : decode cX8_till 22 = .ok (.invokevirtual 444, 3) := by decide +kernel
theorem dX8_till_25 : decode cX8_till 25 = .ok (.iconst 0, 1) := by decide +kernel
theorem dX8_till_26 : decode cX8_till 26 = .ok (.istore_n 3, 1) := by decide +kernel
theorem dX8_till_27 : decode cX8_till 27 = .ok (.aload_n 0, 1) := by decide +kernel
theorem dX8_till_28 : decode cX8_till 28 = .ok (.getfield 75, 3) := by decide +kernel
theorem dX8_till_31 : decode cX8_till 31 = .ok (.iload_n 1, 1) := by decide +kernel
theorem dX8_till_32 : decode cX8_till 32 = .ok (.iaload, 1) := by decide +kernel
theorem dX8_till_33 : decode cX8_till 33 = .ok (.iload_n 2, 1) := by decide +kernel
theorem dX8_till_34 : decode cX8_till 34 = .ok (.iadd, 1) := by decide +kernel
theorem dX8_till_35 : decode cX8_till 35 = .ok (.istore 4, 2) := by decide +kernel
theorem dX8_till_37 : decode cX8_till 37 = .ok (.iconst 0, 1) := by decide +kernel
theorem dX8_till_38 : decode cX8_till 38 = .ok (.istore 5, 2) := by decide +kernel
theorem dX8_till_40 : decode cX8_till 40 = .ok (.iload_n 3, 1) := by decide +kernel
theorem dX8_till_41 : decode cX8_till 41 = .ok (.sipush 400, 3) := by decide +kernel
theorem dX8_till_44 : decode cX8_till 44 = .ok (.if_icmp .ge 27, 3) := by decide +kernel
theorem dX8_till_47 : decode cX8_till 47 = .ok (.aload_n 0, 1) := by decide +kernel
theorem dX8_till_48 : decode cX8_till 48 = .ok (.getfield 75, 3) := by decide +kernel
theorem dX8_till_51 : decode cX8_till 51 = .ok (.iload_n 1, 1) := by decide +kernel
theorem dX8_till_52 : decode cX8_till 52 = .ok (.iaload, 1) := by decide +kernel
theorem dX8_till_53 : decode cX8_till 53 = .ok (.iload 4, 2) := by decide +kernel
theorem dX8_till_55 : decode cX8_till 55 = .ok (.if_icmp .ge 16, 3) := by decide +kernel
theorem dX8_till_58 : decode cX8_till 58 = .ok (.aload_n 0, 1) := by decide +kernel
theorem dX8_till_59 : decode cX8_till 59 = .ok (.iconst 0, 1) := by decide +kernel
theorem dX8_till_60 : decode cX8_till 60 = .ok (.invokevirtual 431, 3) := by decide +kernel
theorem dX8_till_63 : decode cX8_till 63 = .ok (.istore 5, 2) := by decide +kernel
theorem dX8_till_65 : decode cX8_till 65 = .ok (.iinc 3 1, 3) := by decide +kernel
theorem dX8_till_68 : decode cX8_till 68 = .ok (.goto (-28), 3) := by decide +kernel
theorem dX8_till_71 : decode cX8_till 71 = .ok (.aload_n 0, 1) := by decide +kernel
theorem dX8_till_72 : decode cX8_till 72 = .ok (.getfield 75, 3) := by decide +kernel
theorem dX8_till_75 : decode cX8_till 75 = .ok (.iload_n 1, 1) := by decide +kernel
theorem dX8_till_76 : decode cX8_till 76 = .ok (.iaload, 1) := by decide +kernel
theorem dX8_till_77 : decode cX8_till 77 = .ok (.iload 4, 2) := by decide +kernel
theorem dX8_till_79 : decode cX8_till 79 = .ok (.if_icmp .lt 7, 3) := by decide +kernel
theorem dX8_till_82 : decode cX8_till 82 = .ok (.iconst 1, 1) := by decide +kernel
theorem dX8_till_83 : decode cX8_till 83 = .ok (.goto 4, 3) := by decide +kernel
theorem dX8_till_86 : decode cX8_till 86 = .ok (.iconst 0, 1) := by decide +kernel
theorem dX8_till_87 : decode cX8_till 87 = .ok (.istore 6, 2) := by decide +kernel
theorem dX8_till_89 : decode cX8_till 89 = .ok (.aload_n 0, 1) := by decide +kernel
theorem dX8_till_90 : decode cX8_till 90 = .ok (.invokevirtual 447, 3) := by decide +kernel
theorem dX8_till_93 : decode cX8_till 93 = .ok (.iload 6, 2) := by decide +kernel
theorem dX8_till_95 : decode cX8_till 95 = .ok (.ifCond .eq 7, 3) := by decide +kernel
theorem dX8_till_98 : decode cX8_till 98 = .ok (.iload_n 3, 1) := by decide +kernel
theorem dX8_till_99 : decode cX8_till 99 = .ok (.goto 4, 3) := by decide +kernel
theorem dX8_till_102 : decode cX8_till 102 = .ok (.iconst (-1), 1) := by decide +kernel
theorem dX8_till_103 : decode cX8_till 103 = .ok (.ireturn, 1) := by decide +kernel
theorem dX8_dies_0 : decode cX8_dies 0 = .ok (.aload_n 0, 1) := by decide +kernel
theorem dX8_dies_1 : decode cX8_dies 1 = .ok (.invokevirtual 444, 3) := by decide +kernel
theorem dX8_dies_4 : decode cX8_dies 4 = .ok (.iconst 0, 1) := by decide +kernel
theorem dX8_dies_5 : decode cX8_dies 5 = .ok (.istore_n 1, 1) := by decide +kernel
theorem dX8_dies_6 : decode cX8_dies 6 = .ok (.iconst 0, 1) := by decide +kernel
theorem dX8_dies_7 : decode cX8_dies 7 = .ok (.istore_n 2, 1) := by decide +kernel
theorem dX8_dies_8 : decode cX8_dies 8 = .ok (.iload_n 1, 1) := by decide +kernel
theorem dX8_dies_9 : decode cX8_dies 9 = .ok (.sipush 400, 3) := by decide +kernel
theorem dX8_dies_12 : decode cX8_dies 12 = .ok (.if_icmp .ge 22, 3) := by decide +kernel
theorem dX8_dies_15 : decode cX8_dies 15 = .ok (.aload_n 0, 1) := by decide +kernel
theorem dX8_dies_16 : decode cX8_dies 16 = .ok (.invokevirtual 414, 3) := by decide +kernel
theorem dX8_dies_19 : decode cX8_dies 19 = .ok (.ifCond .le 15, 3) := by decide +kernel
theorem dX8_dies_22 : decode cX8_dies 22 = .ok (.aload_n 0, 1) := by decide +kernel
theorem dX8_dies_23 : decode cX8_dies 23 = .ok (.iconst 0, 1) := by decide +kernel
theorem dX8_dies_24 : decode cX8_dies 24 = .ok (.invokevirtual 431, 3) := by decide +kernel
theorem dX8_dies_27 : decode cX8_dies 27 = .ok (.istore_n 2, 1) := by decide +kernel
theorem dX8_dies_28 : decode cX8_dies 28 = .ok (.iinc 1 1, 3) := by decide +kernel
theorem dX8_dies_31 : decode cX8_dies 31 = .ok (.goto (-23), 3) := by decide +kernel
theorem dX8_dies_34 : decode cX8_dies 34 = .ok (.aload_n 0, 1) := by decide +kernel
theorem dX8_dies_35 : decode cX8_dies 35 = .ok (.invokevirtual 414, 3) := by decide +kernel
theorem dX8_dies_38 : decode cX8_dies 38 = .ok (.ifCond .ne 7, 3) := by decide +kernel
theorem dX8_dies_41 : decode cX8_dies 41 = .ok (.iconst 1, 1) := by decide +kernel
theorem dX8_dies_42 : decode cX8_dies 42 = .ok (.goto 4, 3) := by decide +kernel
theorem dX8_dies_45 : decode cX8_dies 45 = .ok (.iconst 0, 1) := by decide +kernel
theorem dX8_dies_46 : decode cX8_dies 46 = .ok (.istore_n 3, 1) := by decide +kernel
theorem dX8_dies_47 : decode cX8_dies 47 = .ok (.aload_n 0, 1) := by decide +kernel
theorem dX8_dies_48 : decode cX8_dies 48 = .ok (.invokevirtual 447, 3) := by decide +kernel
theorem dX8_dies_51 : decode cX8_dies 51 = .ok (.iload_n 3, 1) := by decide +kernel
theorem dX8_dies_52 : decode cX8_dies 52 = .ok (.ifCond .eq 7, 3) := by decide +kernel
theorem dX8_dies_55 : decode cX8_dies 55 = .ok (.iload_n 1, 1) := by decide +kernel
theorem dX8_dies_56 : decode cX8_dies 56 = .ok (.goto 4, 3) := by decide +kernel
theorem dX8_dies_59 : decode cX8_dies 59 = .ok (.iconst (-1), 1) := by decide +kernel
theorem dX8_dies_60 : decode cX8_dies 60 = .ok (.ireturn, 1) := by decide +kernel
theorem dX8_start_0 : decode cX8_start 0 = .ok (.iconst 0, 1) := by decide +kernel
theorem dX8_start_1 : decode cX8_start 1 = .ok (.istore_n 3, 1) := by decide +kernel
theorem dX8_start_2 : decode cX8_start 2 = .ok (.iconst 0, 1) := by decide +kernel
theorem dX8_start_3 : decode cX8_start 3 = .ok (.istore 4, 2) := by decide +kernel
theorem dX8_start_5 : decode cX8_start 5 = .ok (.iload 4, 2) := by decide +kernel
theorem dX8_start_7 : decode cX8_start 7 = .ok (.iload_n 2, 1) := by decide +kernel
theorem dX8_start_8 : decode cX8_start 8 = .ok (.if_icmp .ge 22, 3) := by decide +kernel
theorem dX8_start_11 : decode cX8_start 11 = .ok (.aload_n 0, 1) := by decide +kernel
theorem dX8_start_12 : decode cX8_start 12 = .ok (.aload_n 0, 1) := by decide +kernel
theorem dX8_start_13 : decode cX8_start 13 = .ok (.iload_n 1, 1) := by decide +kernel
theorem dX8_start_14 : decode cX8_start 14 = .ok (.iload 4, 2) := by decide +kernel
theorem dX8_start_16 : decode cX8_start 16 = .ok (.iadd, 1) := by decide +kernel
theorem dX8_start_17 : decode cX8_start 17 = .ok (.invokevirtual 396, 3) := by decide +kernel
theorem dX8_start_20 : decode cX8_start 20 = .ok (.invokevirtual 427, 3) := by decide +kernel
theorem dX8_start_23 : decode cX8_start 23 = .ok (.istore_n 3, 1) := by decide +kernel
theorem dX8_start_24 : decode cX8_start 24 = .ok (.iinc 4 1, 3) := by decide +kernel
theorem dX8_start_27 : decode cX8_start 27 = .ok (.goto (-22), 3) := by decide +kernel
theorem dX8_start_30 : decode cX8_start 30 = .ok (.return_, 1) := by decide +kernel
theorem dX8_life_0 : decode cX8_life 0 = .ok (.iconst 0, 1) := by decide +kernel
theorem dX8_life_1 : decode cX8_life 1 = .ok (.istore_n 1, 1) := by decide +kernel
theorem dX8_life_2 : decode cX8_life 2 = .ok (.iconst 0, 1) := by decide +kernel
theorem dX8_life_3 : decode cX8_life 3 = .ok (.istore_n 2, 1) := by decide +kernel
theorem dX8_life_4 : decode cX8_life 4 = .ok (.iload_n 1, 1) := by decide +kernel
theorem dX8_life_5 : decode cX8_life 5 = .ok (.sipush 200, 3) := by decide +kernel
theorem dX8_life_8 : decode cX8_life 8 = .ok (.if_icmp .ge 22, 3) := by decide +kernel
theorem dX8_life_11 : decode cX8_life 11 = .ok (.aload_n 0, 1) := by decide +kernel
theorem dX8_life_12 : decode cX8_life 12 = .ok (.invokevirtual 414, 3) := by decide +kernel
theorem dX8_life_15 : decode cX8_life 15 = .ok (.ifCond .le 15, 3) := by decide +kernel
theorem dX8_life_18 : decode cX8_life 18 = .ok (.aload_n 0, 1) := by decide +kernel
theorem dX8_life_19 : decode cX8_life 19 = .ok (.iconst 0, 1) := by decide +kernel
theorem dX8_life_20 : decode cX8_life 20 = .ok (.invokevirtual 431, 3) := by decide +kernel
theorem dX8_life_23 : decode cX8_life 23 = .ok (.istore_n 2, 1) := by decide +kernel
theorem dX8_life_24 : decode cX8_life 24 = .ok (.iinc 1 1, 3) := by decide +kernel
theorem dX8_life_27 : decode cX8_life 27 = .ok (.goto (-23), 3) := by decide +kernel
theorem dX8_life_30 : decode cX8_life 30 = .ok (.iload_n 1, 1) := by decide +kernel
