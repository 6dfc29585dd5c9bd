theorem dX8_init_0 : decode cX8_init 0 = .ok (.aload_n 0, 1) := by decide +kernel
theorem dX8_init_1 : decode cX8_init 1 = .ok (.invokespecial 1, 3) := by decide +kernel
theorem dX8_init_4 : decode cX8_init 4 = .ok (.aload_n 0, 1) := by decide +kernel
theorem dX8_init_5 : decode cX8_init 5 = .ok (.sipush 800, 3) := by decide +kernel
theorem dX8_init_8 : decode cX8_init 8 = .ok (.newarray .int, 2) := by decide +kernel
theorem dX8_init_10 : decode cX8_init 10 = .ok (.putfield 7, 3) := by decide +kernel
theorem dX8_init_13 : decode cX8_init 13 = .ok (.aload_n 0, 1) := by decide +kernel
theorem dX8_init_14 : decode cX8_init 14 = .ok (.iconst (-1), 1) := by decide +kernel
theorem dX8_init_15 : decode cX8_init 15 = .ok (.putfield 13, 3) := by decide +kernel
theorem dX8_init_18 : decode cX8_init 18 = .ok (.aload_n 0, 1) := by decide +kernel
theorem dX8_init_19 : decode cX8_init 19 = .ok (.bipush 40, 2) := by decide +kernel
theorem dX8_init_21 : decode cX8_init 21 = .ok (.newarray .boolean, 2) := by decide +kernel
theorem dX8_init_23 : decode cX8_init 23 = .ok (.putfield 17, 3) := by decide +kernel
theorem dX8_init_26 : decode cX8_init 26 = .ok (.aload_n 0, 1) := by decide +kernel
theorem dX8_init_27 : decode cX8_init 27 = .ok (.bipush 40, 2) := by decide +kernel
theorem dX8_init_29 : decode cX8_init 29 = .ok (.newarray .boolean, 2) := by decide +kernel
theorem dX8_init_31 : decode cX8_init 31 = .ok (.putfield 21, 3) := by decide +kernel
theorem dX8_init_34 : decode cX8_init 34 = .ok (.aload_n 0, 1) := by decide +kernel
theorem dX8_init_35 : decode cX8_init 35 = .ok (.bipush 40, 2) := by decide +kernel
theorem dX8_init_37 : decode cX8_init 37 = .ok (.newarray .boolean, 2) := by decide +kernel
theorem dX8_init_39 : decode cX8_init 39 = .ok (.putfield 24, 3) := by decide +kernel
theorem dX8_init_42 : decode cX8_init 42 = .ok (.aload_n 0, 1) := by decide +kernel
theorem dX8_init_43 : decode cX8_init 43 = .ok (.bipush 40, 2) := by decide +kernel
theorem dX8_init_45 : decode cX8_init 45 = .ok (.newarray .boolean, 2) := by decide +kernel
theorem dX8_init_47 : decode cX8_init 47 = .ok (.putfield 27, 3) := by decide +kernel
theorem dX8_init_50 : decode cX8_init 50 = .ok (.aload_n 0, 1) := by decide +kernel
theorem dX8_init_51 : decode cX8_init 51 = .ok (.bipush 40, 2) := by decide +kernel
theorem dX8_init_53 : decode cX8_init 53 = .ok (.newarray .boolean, 2) := by decide +kernel
theorem dX8_init_55 : decode cX8_init 55 = .ok (.putfield 30, 3) := by decide +kernel
theorem dX8_init_58 : decode cX8_init 58 = .ok (.aload_n 0, 1) := by decide +kernel
theorem dX8_init_59 : decode cX8_init 59 = .ok (.bipush 40, 2) := by decide +kernel
theorem dX8_init_61 : decode cX8_init 61 = .ok (.newarray .boolean, 2) := by decide +kernel
theorem dX8_init_63 : decode cX8_init 63 = .ok (.putfield 33, 3) := by decide +kernel
theorem dX8_init_66 : decode cX8_init 66 = .ok (.aload_n 0, 1) := by decide +kernel
theorem dX8_init_67 : decode cX8_init 67 = .ok (.bipush 6, 2) := by decide +kernel
theorem dX8_init_69 : decode cX8_init 69 = .ok (.newarray .int, 2) := by decide +kernel
theorem dX8_init_71 : decode cX8_init 71 = .ok (.putfield 36, 3) := by decide +kernel
theorem dX8_init_74 : decode cX8_init 74 = .ok (.aload_n 0, 1) := by decide +kernel
theorem dX8_init_75 : decode cX8_init 75 = .ok (.bipush 6, 2) := by decide +kernel
theorem dX8_init_77 : decode cX8_init 77 = .ok (.newarray .int, 2) := by decide +kernel
theorem dX8_init_79 : decode cX8_init 79 = .ok (.putfield 39, 3) := by decide +kernel
theorem dX8_init_82 : decode cX8_init 82 = .ok (.aload_n 0, 1) := by decide +kernel
theorem dX8_init_83 : decode cX8_init 83 = .ok (.bipush 6, 2) := by decide +kernel
theorem dX8_init_85 : decode cX8_init 85 = .ok (.newarray .int, 2) := by decide +kernel
theorem dX8_init_87 : decode cX8_init 87 = .ok (.putfield 42, 3) := by decide +kernel
theorem dX8_init_90 : decode cX8_init 90 = .ok (.aload_n 0, 1) := by decide +kernel
theorem dX8_init_91 : decode cX8_init 91 = .ok (.bipush 6, 2) := by decide +kernel
theorem dX8_init_93 : decode cX8_init 93 = .ok (.newarray .int, 2) := by decide +kernel
theorem dX8_init_95 : decode cX8_init 95 = .ok (.putfield 45, 3) := by decide +kernel
theorem dX8_init_98 : decode cX8_init 98 = .ok (.aload_n 0, 1) := by decide +kernel
theorem dX8_init_99 : decode cX8_init 99 = .ok (.bipush 6, 2) := by decide +kernel
theorem dX8_init_101 : decode cX8_init 101 = .ok (.newarray .int, 2) := by decide +kernel
theorem dX8_init_103 : decode cX8_init 103 = .ok (.putfield 48, 3) := by decide +kernel
theorem dX8_init_106 : decode cX8_init 106 = .ok (.aload_n 0, 1) := by decide +kernel
theorem dX8_init_107 : decode cX8_init 107 = .ok (.bipush 6, 2) := by decide +kernel
theorem dX8_init_109 : decode cX8_init 109 = .ok (.newarray .int, 2) := by decide +kernel
theorem dX8_init_111 : decode cX8_init 111 = .ok (.putfield 51, 3) := by decide +kernel
theorem dX8_init_114 : decode cX8_init 114 = .ok (.aload_n 0, 1) := by decide +kernel
theorem dX8_init_115 : decode cX8_init 115 = .ok (.sipush 300, 3) := by decide +kernel
theorem dX8_init_118 : decode cX8_init 118 = .ok (.newarray .int, 2) := by decide +kernel
theorem dX8_init_120 : decode cX8_init 120 = .ok (.putfield 54, 3) := by decide +kernel
theorem dX8_init_123 : decode cX8_init 123 = .ok (.aload_n 0, 1) := by decide +kernel
theorem dX8_init_124 : decode cX8_init 124 = .ok (.sipush 300, 3) := by decide +kernel
theorem dX8_init_127 : decode cX8_init 127 = .ok (.newarray .int, 2) := by decide +kernel
theorem dX8_init_129 : decode cX8_init 129 = .ok (.putfield 57, 3) := by decide +kernel
theorem dX8_init_132 : decode cX8_init 132 = .ok (.aload_n 0, 1) := by decide +kernel
theorem dX8_init_133 : decode cX8_init 133 = .ok (.sipush 300, 3) := by decide +kernel
theorem dX8_init_136 : decode cX8_init 136 = .ok (.newarray .int, 2) := by decide +kernel
theorem dX8_init_138 : decode cX8_init 138 = .ok (.putfield 60, 3) := by decide +kernel
theorem dX8_init_141 : decode cX8_init 141 = .ok (.aload_n 0, 1) := by decide +kernel
theorem dX8_init_142 : decode cX8_init 142 = .ok (.sipush 300, 3) := by decide +kernel
theorem dX8_init_145 : decode cX8_init 145 = .ok (.newarray .int, 2) := by decide +kernel
theorem dX8_init_147 : decode cX8_init 147 = .ok (.putfield 63, 3) := by decide +kernel
theorem dX8_init_150 : decode cX8_init 150 = .ok (.aload_n 0, 1) := by decide +kernel
theorem dX8_init_151 : decode cX8_init 151 = .ok (.sipush 300, 3) := by decide +kernel
theorem dX8_init_154 : decode cX8_init 154 = .ok (.newarray .int, 2) := by decide +kernel
theorem dX8_init_156 : decode cX8_init 156 = .ok (.putfield 66, 3) := by decide +kernel
theorem dX8_init_159 : decode cX8_init 159 = .ok (.aload_n 0, 1) := by decide +kernel
theorem dX8_init_160 : decode cX8_init 160 = .ok (.bipush 40, 2) := by decide +kernel
theorem dX8_init_162 : decode cX8_init 162 = .ok (.newarray .int, 2) := by decide +kernel
theorem dX8_init_164 : decode cX8_init 164 = .ok (.putfield 69, 3) := by decide +kernel
theorem dX8_init_167 : decode cX8_init 167 = .ok (.aload_n 0, 1) := by decide +kernel
theorem dX8_init_168 : decode cX8_init 168 = .ok (.bipush 40, 2) := by decide +kernel
theorem dX8_init_170 : decode cX8_init 170 = .ok (.newarray .int, 2) := by decide +kernel
theorem dX8_init_172 : decode cX8_init 172 = .ok (.putfield 72, 3) := by decide +kernel
theorem dX8_init_175 : decode cX8_init 175 = .ok (.aload_n 0, 1) := by decide +kernel
theorem dX8_init_176 : decode cX8_init 176 = .ok (.bipush 40, 2) := by decide +kernel
theorem dX8_init_178 : decode cX8_init 178 = .ok (.newarray .int, 2) := by decide +kernel
theorem dX8_init_180 : decode cX8_init 180 = .ok (.putfield 75, 3) := by decide +kernel
theorem dX8_init_183 : decode cX8_init 183 = .ok (.aload_n 0, 1) := by decide +kernel
theorem dX8_init_184 : decode cX8_init 184 = .ok (.bipush 40, 2) := by decide +kernel
theorem dX8_init_186 : decode cX8_init 186 = .ok (.newarray .int, 2) := by decide +kernel
theorem dX8_init_188 : decode cX8_init 188 = .ok (.putfield 78, 3) := by decide +kernel
theorem dX8_init_191 : decode cX8_init 191 = .ok (.aload_n 0, 1) := by decide +kernel
theorem dX8_init_192 : decode cX8_init 192 = .ok (.bipush 40, 2) := by decide +kernel
theorem dX8_init_194 : decode cX8_init 194 = .ok (.newarray .int, 2) := by decide +kernel
theorem dX8_init_196 : decode cX8_init 196 = .ok (.putfield 81, 3) := by decide +kernel
theorem dX8_init_199 : decode cX8_init 199 = .ok (.aload_n 0, 1) := by decide +kernel
theorem dX8_init_200 : decode cX8_init 200 = .ok (.bipush 40, 2) := by decide +kernel
theorem dX8_init_202 : decode cX8_init 202 = .ok (.newarray .int, 2) := by decide +kernel
theorem dX8_init_204 : decode cX8_init 204 = .ok (.putfield 84, 3) := by decide +kernel
theorem dX8_init_207 : decode cX8_init 207 = .ok (.aload_n 0, 1) := by decide +kernel
theorem dX8_init_208 : decode cX8_init 208 = .ok (.iconst 3, 1) := by decide +kernel
theorem dX8_init_209 : decode cX8_init 209 = .ok (.newarray .int, 2) := by decide +kernel
theorem dX8_init_211 : decode cX8_init 211 = .ok (.putfield 87, 3) := by decide +kernel
theorem dX8_init_214 : decode cX8_init 214 = .ok (.aload_n 0, 1) := by decide +kernel
theorem dX8_init_215 : decode cX8_init 215 = .ok (.iconst 3, 1) := by decide +kernel
theorem dX8_init_216 : decode cX8_init 216 = .ok (.newarray .int, 2) := by decide +kernel
theorem dX8_init_218 : decode cX8_init 218 = .ok (.putfield 90, 3) := by decide +kernel
theorem dX8_init_221 : decode cX8_init 221 = .ok (.aload_n 0, 1) := by decide +kernel
theorem dX8_init_222 : decode cX8_init 222 = .ok (.bipush 40, 2) := by decide +kernel
theorem dX8_init_224 : decode cX8_init 224 = .ok (.newarray .boolean, 2) := by decide +kernel
theorem dX8_init_226 : decode cX8_init 226 = .ok (.putfield 93, 3) := by decide +kernel
theorem dX8_init_229 : decode cX8_init 229 = .ok (.aload_n 0, 1) := by decide +kernel
theorem dX8_init_230 : decode cX8_init 230 = .ok (.iconst 1, 1) := by decide +kernel
theorem dX8_init_231 : decode cX8_init 231 = .ok (.putfield 96, 3) := by decide +kernel
theorem dX8_init_234 : decode cX8_init 234 = .ok (.aload_n 0, 1) := by decide +kernel
theorem dX8_init_235 : decode cX8_init 235 = .ok (.bipush 60, 2) := by decide +kernel
theorem dX8_init_237 : decode cX8_init 237 = .ok (.newarray .int, 2) := by decide +kernel
theorem dX8_init_239 : decode cX8_init 239 = .ok (.putfield 99, 3) := by decide +kernel
theorem dX8_init_242 : decode cX8_init 242 = .ok (.aload_n 0, 1) := by decide +kernel
theorem dX8_init_243 : decode cX8_init 243 = .ok (.bipush 60, 2) := by decide +kernel
theorem dX8_init_245 : decode cX8_init 245 = .ok (.newarray .int, 2) := by decide +kernel
theorem dX8_init_247 : decode cX8_init 247 = .ok (.putfield 102, 3) := by decide +kernel
theorem dX8_init_250 : decode cX8_init 250 = .ok (.aload_n 0, 1) := by decide +kernel
theorem dX8_init_251 : decode cX8_init 251 = .ok (.bipush 60, 2) := by decide +kernel
theorem dX8_init_253 : decode cX8_init 253 = .ok (.newarray .int, 2) := by decide +kernel
theorem dX8_init_255 : decode cX8_init 255 = .ok (.putfield 105, 3) := by decide +kernel
theorem dX8_init_258 : decode cX8_init 258 = .ok (.aload_n 0, 1) := by decide +kernel
theorem dX8_init_259 : decode cX8_init 259 = .ok (.bipush 60, 2) := by decide +kernel
theorem dX8_init_261 : decode cX8_init 261 = .ok (.newarray .long, 2) := by decide +kernel
theorem dX8_init_263 : decode cX8_init 263 = .ok (.putfield 108, 3) := by decide +kernel
theorem dX8_init_266 : decode cX8_init 266 = .ok (.aload_n 0, 1) := by decide +kernel
theorem dX8_init_267 : decode cX8_init 267 = .ok (.bipush 40, 2) := by decide +kernel
theorem dX8_init_269 : decode cX8_init 269 = .ok (.newarray .long, 2) := by decide +kernel
theorem dX8_init_271 : decode cX8_init 271 = .ok (.putfield 112, 3) := by decide +kernel
theorem dX8_init_274 : decode cX8_init 274 = .ok (.aload_n 0, 1) := by decide +kernel
theorem dX8_init_275 : decode cX8_init 275 = .ok (.bipush 40, 2) := by decide +kernel
theorem dX8_init_277 : decode cX8_init 277 = .ok (.newarray .boolean, 2) := by decide +kernel
theorem dX8_init_279 : decode cX8_init 279 = .ok (.putfield 115, 3) := by decide +kernel
theorem dX8_init_282 : decode cX8_init 282 = .ok (.aload_n 0, 1) := by decide +kernel
theorem dX8_init_283 : decode cX8_init 283 = .ok (.sipush 324, 3) := by decide +kernel
theorem dX8_init_286 : decode cX8_init 286 = .ok (.newarray .boolean, 2) := by decide +kernel
theorem dX8_init_288 : decode cX8_init 288 = .ok (.putfield 118, 3) := by decide +kernel
theorem dX8_init_291 : decode cX8_init 291 = .ok (.aload_n 0, 1) := by decide +kernel
theorem dX8_init_292 : decode cX8_init 292 = .ok (.bipush 80, 2) := by decide +kernel
theorem dX8_init_294 : decode cX8_init 294 = .ok (.newarray .int, 2) := by decide +kernel
theorem dX8_init_296 : decode cX8_init 296 = .ok (.putfield 121, 3) := by decide +kernel
theorem dX8_init_299 : decode cX8_init 299 = .ok (.aload_n 0, 1) := by decide +kernel
theorem dX8_init_300 : decode cX8_init 300 = .ok (.bipush 40, 2) := by decide +kernel
theorem dX8_init_302 : decode cX8_init 302 = .ok (.newarray .int, 2) := by decide +kernel
theorem dX8_init_304 : decode cX8_init 304 = .ok (.putfield 124, 3) := by decide +kernel
theorem dX8_init_307 : decode cX8_init 307 = .ok (.aload_n 0, 1) := by decide +kernel
theorem dX8_init_308 : decode cX8_init 308 = .ok (.bipush 40, 2) := by decide +kernel
theorem dX8_init_310 : decode cX8_init 310 = .ok (.newarray .int, 2) := by decide +kernel
theorem dX8_init_312 : decode cX8_init 312 = .ok (.putfield 127, 3) := by decide +kernel
theorem dX8_init_315 : decode cX8_init 315 = .ok (.aload_n 0, 1) := by decide +kernel
theorem dX8_init_316 : decode cX8_init 316 = .ok (.iconst 3, 1) := by decide +kernel
theorem dX8_init_317 : decode cX8_init 317 = .ok (.newarray .boolean, 2) := by decide +kernel
theorem dX8_init_319 : decode cX8_init 319 = .ok (.putfield 130, 3) := by decide +kernel
theorem dX8_init_322 : decode cX8_init 322 = .ok (.aload_n 0, 1) := by decide +kernel
theorem dX8_init_323 : decode cX8_init 323 = .ok (.bipush 120, 2) := by decide +kernel
theorem dX8_init_325 : decode cX8_init 325 = .ok (.newarray .int, 2) := by decide +kernel
theorem dX8_init_327 : decode cX8_init 327 = .ok (.putfield 133, 3) := by decide +kernel
theorem dX8_init_330 : decode cX8_init 330 = .ok (.aload_n 0, 1) := by decide +kernel
theorem dX8_init_331 : decode cX8_init 331 = .ok (.bipush 120, 2) := by decide +kernel
theorem dX8_init_333 : decode cX8_init 333 = .ok (.newarray .int, 2) := by decide +kernel
theorem dX8_init_335 : decode cX8_init 335 = .ok (.putfield 136, 3) := by decide +kernel
theorem dX8_init_338 : decode cX8_init 338 = .ok (.aload_n 0, 1) := by decide +kernel
theorem dX8_init_339 : decode cX8_init 339 = .ok (.bipush 9, 2) := by decide +kernel
theorem dX8_init_341 : decode cX8_init 341 = .ok (.newarray .int, 2) := by decide +kernel
theorem dX8_init_343 : decode cX8_init 343 = .ok (.putfield 139, 3) := by decide +kernel
theorem dX8_init_346 : decode cX8_init 346 = .ok (.aload_n 0, 1) := by decide +kernel
theorem dX8_init_347 : decode cX8_init 347 = .ok (.iconst 3, 1) := by decide +kernel
theorem dX8_init_348 : decode cX8_init 348 = .ok (.newarray .int, 2) := by decide +kernel
theorem dX8_init_350 : decode cX8_init 350 = .ok (.putfield 142, 3) := by decide +kernel
theorem dX8_init_353 : decode cX8_init 353 = .ok (.aload_n 0, 1) := by decide +kernel
theorem dX8_init_354 : decode cX8_init 354 = .ok (.iconst 3, 1) := by decide +kernel
theorem dX8_init_355 : decode cX8_init 355 = .ok (.newarray .int, 2) := by decide +kernel
theorem dX8_init_357 : decode cX8_init 357 = .ok (.putfield 145, 3) := by decide +kernel
theorem dX8_init_360 : decode cX8_init 360 = .ok (.aload_n 0, 1) := by decide +kernel
theorem dX8_init_361 : decode cX8_init 361 = .ok (.iconst 3, 1) := by decide +kernel
theorem dX8_init_362 : decode cX8_init 362 = .ok (.newarray .int, 2) := by decide +kernel
theorem dX8_init_364 : decode cX8_init 364 = .ok (.putfield 148, 3) := by decide +kernel
theorem dX8_init_367 : decode cX8_init 367 = .ok (.aload_n 0, 1) := by decide +kernel
theorem dX8_init_368 : decode cX8_init 368 = .ok (.bipush 24, 2) := by decide +kernel
theorem dX8_init_370 : decode cX8_init 370 = .ok (.putfield 151, 3) := by decide +kernel
theorem dX8_init_373 : decode cX8_init 373 = .ok (.aload_n 0, 1) := by decide +kernel
theorem dX8_init_374 : decode cX8_init 374 = .ok (.invokevirtual 154, 3) := by decide +kernel
theorem dX8_init_377 : decode cX8_init 377 = .ok (.aload_n 0, 1) := by decide +kernel
theorem dX8_init_378 : decode cX8_init 378 = .ok (.invokevirtual 157, 3) := by decide +kernel
theorem dX8_init_381 : decode cX8_init 381 = .ok (.return_, 1) := by decide +kernel
theorem dX8_feed_0 : decode cX8_feed 0 = .ok (.aload_n 0, 1) := by decide +kernel
theorem dX8_feed_1 : decode cX8_feed 1 = .ok (.getfield 160, 3) := by decide +kernel
theorem dX8_feed_4 : decode cX8_feed 4 = .ok (.bipush 20, 2) := by decide +kernel
theorem dX8_feed_6 : decode cX8_feed 6 = .ok (.iadd, 1) := by decide +kernel
theorem dX8_feed_7 : decode cX8_feed 7 = .ok (.sipush 800, 3) := by decide +kernel
theorem dX8_feed_10 : decode cX8_feed 10 = .ok (.if_icmp .le 5, 3) := by decide +kernel
theorem dX8_feed_13 : decode cX8_feed 13 = .ok (.iconst (-1), 1) := by decide +kernel
theorem dX8_feed_14 : decode cX8_feed 14 = .ok (.ireturn, 1) := by decide +kernel
theorem dX8_feed_15 : decode cX8_feed 15 = .ok (.aload_n 0, 1) := by decide +kernel
theorem dX8_feed_16 : decode cX8_feed 16 = .ok (.iload_n 1, 1) := by decide +kernel
theorem dX8_feed_17 : decode cX8_feed 17 = .ok (.invokevirtual 163, 3) := by decide +kernel
theorem dX8_feed_20 : decode cX8_feed 20 = .ok (.aload_n 0, 1) := by decide +kernel
theorem dX8_feed_21 : decode cX8_feed 21 = .ok (.iload_n 2, 1) := by decide +kernel
theorem dX8_feed_22 : decode cX8_feed 22 = .ok (.invokevirtual 163, 3) := by decide +kernel
theorem dX8_feed_25 : decode cX8_feed 25 = .ok (.aload_n 0, 1) := by decide +kernel
theorem dX8_feed_26 : decode cX8_feed 26 = .ok (.iload_n 3, 1) := by decide +kernel
theorem dX8_feed_27 : decode cX8_feed 27 = .ok (.invokevirtual 163, 3) := by decide +kernel
theorem dX8_feed_30 : decode cX8_feed 30 = .ok (.aload_n 0, 1) := by decide +kernel
theorem dX8_feed_31 : decode cX8_feed 31 = .ok (.iload 4, 2) := by decide +kernel
theorem dX8_feed_33 : decode cX8_feed 33 = .ok (.invokevirtual 163, 3) := by decide +kernel
theorem dX8_feed_36 : decode cX8_feed 36 = .ok (.aload_n 0, 1) := by decide +kernel
theorem dX8_feed_37 : decode cX8_feed 37 = .ok (.iload 5, 2) := by decide +kernel
theorem dX8_feed_39 : decode cX8_feed 39 = .ok (.invokevirtual 163, 3) := by decide +kernel
theorem dX8_feed_42 : decode cX8_feed 42 = .ok (.aload_n 0, 1) := by decide +kernel
theorem dX8_feed_43 : decode cX8_feed 43 = .ok (.getfield 160, 3) := by decide +kernel
theorem dX8_feed_46 : decode cX8_feed 46 = .ok (.ireturn, 1) := by decide +kernel
theorem dX8_four_0 : decode cX8_four 0 = .ok (.bipush 24, 2) := by decide +kernel
theorem dX8_four_2 : decode cX8_four 2 = .ok (.istore_n 2, 1) := by decide +kernel
theorem dX8_four_3 : decode cX8_four 3 = .ok (.iload_n 2, 1) := by decide +kernel
theorem dX8_four_4 : decode cX8_four 4 = .ok (.ifCond .lt 35, 3) := by decide +kernel
theorem dX8_four_7 : decode cX8_four 7 = .ok (.aload_n 0, 1) := by decide +kernel
theorem dX8_four_8 : decode cX8_four 8 = .ok (.getfield 7, 3) := by decide +kernel
theorem dX8_four_11 : decode cX8_four 11 = .ok (.aload_n 0, 1) := by decide +kernel
theorem dX8_four_12 : decode cX8_four 12 = .ok (.getfield 160, 3) := by decide +kernel
theorem dX8_four_15 : decode cX8_four 15 = .ok (.iload_n 1, 1) := by decide +kernel
theorem dX8_four_16 : decode cX8_four 16 = .ok (.iload_n 2, 1) := by decide +kernel
theorem dX8_four_17 : decode cX8_four 17 = .ok (.ishr, 1) := by decide +kernel
theorem dX8_four_18 : decode cX8_four 18 = .ok (.sipush 255, 3) := by decide +kernel
theorem dX8_four_21 : decode cX8_four 21 = .ok (.iand, 1) := by decide +kernel
theorem dX8_four_22 : decode cX8_four 22 = .ok (.iastore, 1) := by decide +kernel
theorem dX8_four_23 : decode cX8_four 23 = .ok (.aload_n 0, 1) := by decide +kernel
theorem dX8_four_24 : decode cX8_four 24 = .ok (.dup, 1) := by decide +kernel
theorem dX8_four_25 : decode cX8_four 25 = .ok (.getfield 160, 3) := by decide +kernel
theorem dX8_four_28 : decode cX8_four 28 = .ok (.iconst 1, 1) := by decide +kernel
theorem dX8_four_29 : decode cX8_four 29 = .ok (.iadd, 1) := by decide +kernel
theorem dX8_four_30 : decode cX8_four 30 = .ok (.putfield 160, 3) := by decide +kernel
theorem dX8_four_33 : decode cX8_four 33 = .ok (.iinc 2 (-8), 3) := by decide +kernel
theorem dX8_four_36 : decode cX8_four 36 = .ok (.goto (-33), 3) := by decide +kernel
theorem dX8_four_39 : decode cX8_four 39 = .ok (.return_, 1) := by decide +kernel
theorem dX8_end_0 : decode cX8_end 0 = .ok (.iload_n 1, 1) := by decide +kernel
theorem dX8_end_1 : decode cX8_end 1 = .ok (.ifCond .lt 11, 3) := by decide +kernel
theorem dX8_end_4 : decode cX8_end 4 = .ok (.iload_n 1, 1) := by decide +kernel
theorem dX8_end_5 : decode cX8_end 5 = .ok (.aload_n 0, 1) := by decide +kernel
theorem dX8_end_6 : decode cX8_end 6 = .ok (.getfield 160, 3) := by decide +kernel
theorem dX8_end_9 : decode cX8_end 9 = .ok (.if_icmp .le 5, 3) := by decide +kernel
theorem dX8_end_12 : decode cX8_end 12 = .ok (.iconst (-1), 1) := by decide +kernel
theorem dX8_end_13 : decode cX8_end 13 = .ok (.ireturn, 1) := by decide +kernel
theorem dX8_end_14 : decode cX8_end 14 = .ok (.aload_n 0, 1) := by decide +kernel
theorem dX8_end_15 : decode cX8_end 15 = .ok (.iload_n 1, 1) := by decide +kernel
theorem dX8_end_16 : decode cX8_end 16 = .ok (.putfield 160, 3) := by decide +kernel
theorem dX8_end_19 : decode cX8_end 19 = .ok (.iload_n 1, 1) := by decide +kernel
theorem dX8_end_20 : decode cX8_end 20 = .ok (.ireturn, 1) := by decide +kernel
theorem dX8_here_0 : decode cX8_here 0 = .ok (.aload_n 0, 1) := by decide +kernel
theorem dX8_here_1 : decode cX8_here 1 = .ok (.getfield 167, 3) := by decide +kernel
theorem dX8_here_4 : decode cX8_here 4 = .ok (.iload_n 1, 1) := by decide +kernel
theorem dX8_here_5 : decode cX8_here 5 = .ok (.iadd, 1) := by decide +kernel
theorem dX8_here_6 : decode cX8_here 6 = .ok (.aload_n 0, 1) := by decide +kernel
theorem dX8_here_7 : decode cX8_here 7 = .ok (.getfield 170, 3) := by decide +kernel
theorem dX8_here_10 : decode cX8_here 10 = .ok (.if_icmp .ge 17, 3) := by decide +kernel
theorem dX8_here_13 : decode cX8_here 13 = .ok (.aload_n 0, 1) := by decide +kernel
theorem dX8_here_14 : decode cX8_here 14 = .ok (.getfield 7, 3) := by decide +kernel
theorem dX8_here_17 : decode cX8_here 17 = .ok (.aload_n 0, 1) := by decide +kernel
theorem dX8_here_18 : decode cX8_here 18 = .ok (.getfield 167, 3) := by decide +kernel
theorem dX8_here_21 : decode cX8_here 21 = .ok (.iload_n 1, 1) := by decide +kernel
theorem dX8_here_22 : decode cX8_here 22 = .ok (.iadd, 1) := by decide +kernel
theorem dX8_here_23 : decode cX8_here 23 = .ok (.iaload, 1) := by decide +kernel
theorem dX8_here_24 : decode cX8_here 24 = .ok (.goto 4, 3) := by decide +kernel
theorem dX8_here_27 : decode cX8_here 27 = .ok (.iconst (-1), 1) := by decide +kernel
theorem dX8_here_28 : decode cX8_here 28 = .ok (.ireturn, 1) := by decide +kernel
theorem dX8_isLetter_0 : decode cX8_isLetter 0 = .ok (.iload_n 0, 1) := by decide +kernel
theorem dX8_isLetter_1 : decode cX8_isLetter 1 = .ok (.bipush 97, 2) := by decide +kernel
theorem dX8_isLetter_3 : decode cX8_isLetter 3 = .ok (.if_icmp .lt 13, 3) := by decide +kernel
theorem dX8_isLetter_6 : decode cX8_isLetter 6 = .ok (.iload_n 0, 1) := by decide +kernel
theorem dX8_isLetter_7 : decode cX8_isLetter 7 = .ok (.bipush 122, 2) := by decide +kernel
theorem dX8_isLetter_9 : decode cX8_isLetter 9 = .ok (.if_icmp .gt 7, 3) := by decide +kernel
theorem dX8_isLetter_12 : decode cX8_isLetter 12 = .ok (.iconst 1, 1) := by decide +kernel
theorem dX8_isLetter_13 : decode cX8_isLetter 13 = .ok (.goto 4, 3) := by decide +kernel
theorem dX8_isLetter_16 : decode cX8_isLetter 16 = .ok (.iconst 0, 1) := by decide +kernel
theorem dX8_isLetter_17 : decode cX8_isLetter 17 = .ok (.ireturn, 1) := by decide +kernel
theorem dX8_isDigit_0 : decode cX8_isDigit 0 = .ok (.iload_n 0, 1) := by decide +kernel
theorem dX8_isDigit_1 : decode cX8_isDigit 1 = .ok (.bipush 48, 2) := by decide +kernel
theorem dX8_isDigit_3 : decode cX8_isDigit 3 = .ok (.if_icmp .lt 13, 3) := by decide +kernel
theorem dX8_isDigit_6 : decode cX8_isDigit 6 = .ok (.iload_n 0, 1) := by decide +kernel
theorem dX8_isDigit_7 : decode cX8_isDigit 7 = .ok (.bipush 57, 2) := by decide +kernel
theorem dX8_isDigit_9 : decode cX8_isDigit 9 = .ok (.if_icmp .gt 7, 3) := by decide +kernel
theorem dX8_isDigit_12 : decode cX8_isDigit 12 = .ok (.iconst 1, 1) := by decide +kernel
theorem dX8_isDigit_13 : decode cX8_isDigit 13 = .ok (.goto 4, 3) := by decide +kernel
theorem dX8_isDigit_16 : decode cX8_isDigit 16 = .ok (.iconst 0, 1) := by decide +kernel
theorem dX8_isDigit_17 : decode cX8_isDigit 17 = .ok (.ireturn, 1) := by decide +kernel
theorem dX8_isSign_0 : decode cX8_isSign 0 = .ok (.iload_n 0, 1) := by decide +kernel
theorem dX8_isSign_1 : decode cX8_isSign 1 = .ok (.bipush 59, 2) := by decide +kernel
theorem dX8_isSign_3 : decode cX8_isSign 3 = .ok (.if_icmp .eq 51, 3) := by decide +kernel
theorem dX8_isSign_6 : decode cX8_isSign 6 = .ok (.iload_n 0, 1) := by decide +kernel
theorem dX8_isSign_7 : decode cX8_isSign 7 = .ok (.bipush 40, 2) := by decide +kernel
theorem dX8_isSign_9 : decode cX8_isSign 9 = .ok (.if_icmp .eq 45, 3) := by decide +kernel
theorem dX8_isSign_12 : decode cX8_isSign 12 = .ok (.iload_n 0, 1) := by decide +kernel
theorem dX8_isSign_13 : decode cX8_isSign 13 = .ok (.bipush 41, 2) := by decide +kernel
theorem dX8_isSign_15 : decode cX8_isSign 15 = .ok (.if_icmp .eq 39, 3) := by decide +kernel
theorem dX8_isSign_18 : decode cX8_isSign 18 = .ok (.iload_n 0, 1) := by decide +kernel
theorem dX8_isSign_19 : decode cX8_isSign 19 = .ok (.bipush 60, 2) := by decide +kernel
theorem dX8_isSign_21 : decode cX8_isSign 21 = .ok (.if_icmp .eq 33, 3) := by decide +kernel
theorem dX8_isSign_24 : decode cX8_isSign 24 = .ok (.iload_n 0, 1) := by decide +kernel
theorem dX8_isSign_25 : decode cX8_isSign 25 = .ok (.bipush 62, 2) := by decide +kernel
theorem dX8_isSign_27 : decode cX8_isSign 27 = .ok (.if_icmp .eq 27, 3) := by decide +kernel
theorem dX8_isSign_30 : decode cX8_isSign 30 = .ok (.iload_n 0, 1) := by decide +kernel
theorem dX8_isSign_31 : decode cX8_isSign 31 = .ok (.bipush 61, 2) := by decide +kernel
theorem dX8_isSign_33 : decode cX8_isSign 33 = .ok (.if_icmp .eq 21, 3) := by decide +kernel
theorem dX8_isSign_36 : decode cX8_isSign 36 = .ok (.iload_n 0, 1) := by decide +kernel
theorem dX8_isSign_37 : decode cX8_isSign 37 = .ok (.bipush 43, 2) := by decide +kernel
theorem dX8_isSign_39 : decode cX8_isSign 39 = .ok (.if_icmp .eq 15, 3) := by decide +kernel
theorem dX8_isSign_42 : decode cX8_isSign 42 = .ok (.iload_n 0, 1) := by decide +kernel
theorem dX8_isSign_43 : decode cX8_isSign 43 = .ok (.bipush 45, 2) := by decide +kernel
theorem dX8_isSign_45 : decode cX8_isSign 45 = .ok (.if_icmp .eq 9, 3) := by decide +kernel
theorem dX8_isSign_48 : decode cX8_isSign 48 = .ok (.iload_n 0, 1) := by decide +kernel
theorem dX8_isSign_49 : decode cX8_isSign 49 = .ok (.bipush 42, 2) := by decide +kernel
theorem dX8_isSign_51 : decode cX8_isSign 51 = .ok (.if_icmp .ne 7, 3) := by decide +kernel
theorem dX8_isSign_54 : decode cX8_isSign 54 = .ok (.iconst 1, 1) := by decide +kernel
theorem dX8_isSign_55 : decode cX8_isSign 55 = .ok (.goto 4, 3) := by decide +kernel
theorem dX8_isSign_58 : decode cX8_isSign 58 = .ok (.iconst 0, 1) := by decide +kernel
theorem dX8_isSign_59 : decode cX8_isSign 59 = .ok (.ireturn, 1) := by decide +kernel
theorem dX8_token_0 : decode cX8_token 0 = .ok (.aload_n 0, 1) := by decide +kernel
theorem dX8_token_1 : decode cX8_token 1 = .ok (.iconst 0, 1) := by decide +kernel
theorem dX8_token_2 : decode cX8_token 2 = .ok (.invokevirtual 173, 3) := by decide +kernel
theorem dX8_token_5 : decode cX8_token 5 = .ok (.bipush 32, 2) := by decide +kernel
theorem dX8_token_7 : decode cX8_token 7 = .ok (.if_icmp .eq 13, 3) := by decide +kernel
theorem dX8_token_10 : decode cX8_token 10 = .ok (.aload_n 0, 1) := by decide +kernel
theorem dX8_token_11 : decode cX8_token 11 = .ok (.iconst 0, 1) := by decide +kernel
theorem dX8_token_12 : decode cX8_token 12 = .ok (.invokevirtual 173, 3) := by decide +kernel
theorem dX8_token_15 : decode cX8_token 15 = .ok (.bipush 10, 2) := by decide +kernel
theorem dX8_token_17 : decode cX8_token 17 = .ok (.if_icmp .ne 16, 3) := by decide +kernel
theorem dX8_token_20 : decode cX8_token 20 = .ok (.aload_n 0, 1) := by decide +kernel
theorem dX8_token_21 : decode cX8_token 21 = .ok (.dup, 1) := by decide +kernel
theorem dX8_token_22 : decode cX8_token 22 = .ok (.getfield 167, 3) := by decide +kernel
theorem dX8_token_25 : decode cX8_token 25 = .ok (.iconst 1, 1) := by decide +kernel
theorem dX8_token_26 : decode cX8_token 26 = .ok (.iadd, 1) := by decide +kernel
theorem dX8_token_27 : decode cX8_token 27 = .ok (.putfield 167, 3) := by decide +kernel
theorem dX8_token_30 : decode cX8_token 30 = .ok (.goto (-30), 3) := by decide +kernel
theorem dX8_token_33 : decode cX8_token 33 = .ok (.aload_n 0, 1) := by decide +kernel
theorem dX8_token_34 : decode cX8_token 34 = .ok (.aload_n 0, 1) := by decide +kernel
theorem dX8_token_35 : decode cX8_token 35 = .ok (.getfield 167, 3) := by decide +kernel
theorem dX8_token_38 : decode cX8_token 38 = .ok (.putfield 177, 3) := by decide +kernel
theorem dX8_token_41 : decode cX8_token 41 = .ok (.aload_n 0, 1) := by decide +kernel
theorem dX8_token_42 : decode cX8_token 42 = .ok (.iconst 0, 1) := by decide +kernel
theorem dX8_token_43 : decode cX8_token 43 = .ok (.invokevirtual 173, 3) := by decide +kernel
theorem dX8_token_46 : decode cX8_token 46 = .ok (.istore_n 1, 1) := by decide +kernel
theorem dX8_token_47 : decode cX8_token 47 = .ok (.iconst 0, 1) := by decide +kernel
theorem dX8_token_48 : decode cX8_token 48 = .ok (.istore_n 2, 1) := by decide +kernel
theorem dX8_token_49 : decode cX8_token 49 = .ok (.aload_n 0, 1) := by decide +kernel
theorem dX8_token_50 : decode cX8_token 50 = .ok (.lconst 0, 1) := by decide +kernel
theorem dX8_token_51 : decode cX8_token 51 = .ok (.putfield 180, 3) := by decide +kernel
theorem dX8_token_54 : decode cX8_token 54 = .ok (.aload_n 0, 1) := by decide +kernel
theorem dX8_token_55 : decode cX8_token 55 = .ok (.iconst 0, 1) := by decide +kernel
theorem dX8_token_56 : decode cX8_token 56 = .ok (.putfield 184, 3) := by decide +kernel
theorem dX8_token_59 : decode cX8_token 59 = .ok (.iload_n 1, 1) := by decide +kernel
theorem dX8_token_60 : decode cX8_token 60 = .ok (.ifCond .ge 11, 3) := by decide +kernel
theorem dX8_token_63 : decode cX8_token 63 = .ok (.aload_n 0, 1) := by decide +kernel
theorem dX8_token_64 : decode cX8_token 64 = .ok (.iconst 0, 1) := by decide +kernel
theorem dX8_token_65 : decode cX8_token 65 = .ok (.putfield 187, 3) := by decide +kernel
theorem dX8_token_68 : decode cX8_token 68 = .ok (.goto 164, 3) := by decide +kernel
theorem dX8_token_71 : decode cX8_token 71 = .ok (.iload_n 1, 1) := by decide +kernel
theorem dX8_token_72 : decode cX8_token 72 = .ok (.invokestatic 190, 3) := by decide +kernel
theorem dX8_token_75 : decode cX8_token 75 = .ok (.ifCond .eq 62, 3) := by decide +kernel
theorem dX8_token_78 : decode cX8_token 78 = .ok (.aload_n 0, 1) := by decide +kernel
theorem dX8_token_79 : decode cX8_token 79 = .ok (.iload_n 2, 1) := by decide +kernel
theorem dX8_token_80 : decode cX8_token 80 = .ok (.invokevirtual 173, 3) := by decide +kernel
theorem dX8_token_83 : decode cX8_token 83 = .ok (.invokestatic 190, 3) := by decide +kernel
theorem dX8_token_86 : decode cX8_token 86 = .ok (.ifCond .eq 33, 3) := by decide +kernel
theorem dX8_token_89 : decode cX8_token 89 = .ok (.iload_n 2, 1) := by decide +kernel
theorem dX8_token_90 : decode cX8_token 90 = .ok (.bipush 8, 2) := by decide +kernel
theorem dX8_token_92 : decode cX8_token 92 = .ok (.if_icmp .ge 21, 3) := by decide +kernel
theorem dX8_token_95 : decode cX8_token 95 = .ok (.aload_n 0, 1) := by decide +kernel
theorem dX8_token_96 : decode cX8_token 96 = .ok (.aload_n 0, 1) := by decide +kernel
theorem dX8_token_97 : decode cX8_token 97 = .ok (.getfield 180, 3) := by decide +kernel
theorem dX8_token_100 : decode cX8_token 100 = .ok (.bipush 8, 2) := by decide +kernel
theorem dX8_token_102 : decode cX8_token 102 = .ok (.lshl, 1) := by decide +kernel
theorem dX8_token_103 : decode cX8_token 103 = .ok (.aload_n 0, 1) := by decide +kernel
theorem dX8_token_104 : decode cX8_token 104 = .ok (.iload_n 2, 1) := by decide +kernel
theorem dX8_token_105 : decode cX8_token 105 = .ok (.invokevirtual 173, 3) := by decide +kernel
theorem dX8_token_108 : decode cX8_token 108 = .ok (.i2l, 1) := by decide +kernel
theorem dX8_token_109 : decode cX8_token 109 = .ok (.lor, 1) := by decide +kernel
theorem dX8_token_110 : decode cX8_token 110 = .ok (.putfield 180, 3) := by decide +kernel
theorem dX8_token_113 : decode cX8_token 113 = .ok (.iinc 2 1, 3) := by decide +kernel
theorem dX8_token_116 : decode cX8_token 116 = .ok (.goto (-38), 3) := by decide +kernel
theorem dX8_token_119 : decode cX8_token 119 = .ok (.aload_n 0, 1) := by decide +kernel
theorem dX8_token_120 : decode cX8_token 120 = .ok (.iload_n 2, 1) := by decide +kernel
theorem dX8_token_121 : decode cX8_token 121 = .ok (.bipush 8, 2) := by decide +kernel
theorem dX8_token_123 : decode cX8_token 123 = .ok (.if_icmp .le 7, 3) := by decide +kernel
theorem dX8_token_126 : decode cX8_token 126 = .ok (.iconst 3, 1) := by decide +kernel
theorem dX8_token_127 : decode cX8_token 127 = .ok (.goto 4, 3) := by decide +kernel
theorem dX8_token_130 : decode cX8_token 130 = .ok (.iconst 1, 1) := by decide +kernel
theorem dX8_token_131 : decode cX8_token 131 = .ok (.putfield 187, 3) := by decide +kernel
theorem dX8_token_134 : decode cX8_token 134 = .ok (.goto 98, 3) := by decide +kernel
theorem dX8_token_137 : decode cX8_token 137 = .ok (.iload_n 1, 1) := by decide +kernel
theorem dX8_token_138 : decode cX8_token 138 = .ok (.invokestatic 194, 3) := by decide +kernel
theorem dX8_token_141 : decode cX8_token 141 = .ok (.ifCond .eq 73, 3) := by decide +kernel
theorem dX8_token_144 : decode cX8_token 144 = .ok (.aload_n 0, 1) := by decide +kernel
theorem dX8_token_145 : decode cX8_token 145 = .ok (.iload_n 2, 1) := by decide +kernel
theorem dX8_token_146 : decode cX8_token 146 = .ok (.invokevirtual 173, 3) := by decide +kernel
theorem dX8_token_149 : decode cX8_token 149 = .ok (.invokestatic 194, 3) := by decide +kernel
theorem dX8_token_152 : decode cX8_token 152 = .ok (.ifCond .eq 34, 3) := by decide +kernel
theorem dX8_token_155 : decode cX8_token 155 = .ok (.iload_n 2, 1) := by decide +kernel
theorem dX8_token_156 : decode cX8_token 156 = .ok (.iconst 4, 1) := by decide +kernel
theorem dX8_token_157 : decode cX8_token 157 = .ok (.if_icmp .ge 23, 3) := by decide +kernel
theorem dX8_token_160 : decode cX8_token 160 = .ok (.aload_n 0, 1) := by decide +kernel
theorem dX8_token_161 : decode cX8_token 161 = .ok (.bipush 10, 2) := by decide +kernel
theorem dX8_token_163 : decode cX8_token 163 = .ok (.aload_n 0, 1) := by decide +kernel
theorem dX8_token_164 : decode cX8_token 164 = .ok (.getfield 184, 3) := by decide +kernel
theorem dX8_token_167 : decode cX8_token 167 = .ok (.imul, 1) := by decide +kernel
theorem dX8_token_168 : decode cX8_token 168 = .ok (.aload_n 0, 1) := by decide +kernel
theorem dX8_token_169 : decode cX8_token 169 = .ok (.iload_n 2, 1) := by decide +kernel
theorem dX8_token_170 : decode cX8_token 170 = .ok (.invokevirtual 173, 3) := by decide +kernel
theorem dX8_token_173 : decode cX8_token 173 = .ok (.iadd, 1) := by decide +kernel
theorem dX8_token_174 : decode cX8_token 174 = .ok (.bipush 48, 2) := by decide +kernel
theorem dX8_token_176 : decode cX8_token 176 = .ok (.isub, 1) := by decide +kernel
theorem dX8_token_177 : decode cX8_token 177 = .ok (.putfield 184, 3) := by decide +kernel
theorem dX8_token_180 : decode cX8_token 180 = .ok (.iinc 2 1, 3) := by decide +kernel
theorem dX8_token_183 : decode cX8_token 183 = .ok (.goto (-39), 3) := by decide +kernel
theorem dX8_token_186 : decode cX8_token 186 = .ok (.aload_n 0, 1) := by decide +kernel
theorem dX8_token_187 : decode cX8_token 187 = .ok (.iload_n 2, 1) := by decide +kernel
theorem dX8_token_188 : decode cX8_token 188 = .ok (.iconst 4, 1) := by decide +kernel
theorem dX8_token_189 : decode cX8_token 189 = .ok (.if_icmp .gt 14, 3) := by decide +kernel
theorem dX8_token_192 : decode cX8_token 192 = .ok (.aload_n 0, 1) := by decide +kernel
theorem dX8_token_193 : decode cX8_token 193 = .ok (.iload_n 2, 1) := by decide +kernel
theorem dX8_token_194 : decode cX8_token 194 = .ok (.invokevirtual 173, 3) := by decide +kernel
theorem dX8_token_197 : decode cX8_token 197 = .ok (.invokestatic 190, 3) := by decide +kernel
theorem dX8_token_200 : decode cX8_token 200 = .ok (.ifCond .eq 7, 3) := by decide +kernel
theorem dX8_token_203 : decode cX8_token 203 = .ok (.iconst 3, 1) := by decide +kernel
theorem dX8_token_204 : decode cX8_token 204 = .ok (.goto 4, 3) := by decide +kernel
theorem dX8_token_207 : decode cX8_token 207 = .ok (.iconst 2, 1) := by decide +kernel
theorem dX8_token_208 : decode cX8_token 208 = .ok (.putfield 187, 3) := by decide +kernel
theorem dX8_token_211 : decode cX8_token 211 = .ok (.goto 21, 3) := by decide +kernel
theorem dX8_token_214 : decode cX8_token 214 = .ok (.iconst 1, 1) := by decide +kernel
theorem dX8_token_215 : decode cX8_token 215 = .ok (.istore_n 2, 1) := by decide +kernel
theorem dX8_token_216 : decode cX8_token 216 = .ok (.aload_n 0, 1) := by decide +kernel
theorem dX8_token_217 : decode cX8_token 217 = .ok (.iload_n 1, 1) := by decide +kernel
theorem dX8_token_218 : decode cX8_token 218 = .ok (.invokestatic 197, 3) := by decide +kernel
theorem dX8_token_221 : decode cX8_token 221 = .ok (.ifCond .eq 7, 3) := by decide +kernel
theorem dX8_token_224 : decode cX8_token 224 = .ok (.iload_n 1, 1) := by decide +kernel
theorem dX8_token_225 : decode cX8_token 225 = .ok (.goto 4, 3) := by decide +kernel
theorem dX8_token_228 : decode cX8_token 228 = .ok (.iconst 3, 1) := by decide +kernel
theorem dX8_token_229 : decode cX8_token 229 = .ok (.putfield 187, 3) := by decide +kernel
theorem dX8_token_232 : decode cX8_token 232 = .ok (.aload_n 0, 1) := by decide +kernel
theorem dX8_token_233 : decode cX8_token 233 = .ok (.getfield 187, 3) := by decide +kernel
theorem dX8_token_236 : decode cX8_token 236 = .ok (.iconst 3, 1) := by decide +kernel
theorem dX8_token_237 : decode cX8_token 237 = .ok (.if_icmp .eq 13, 3) := by decide +kernel
theorem dX8_token_240 : decode cX8_token 240 = .ok (.aload_n 0, 1) := by decide +kernel
theorem dX8_token_241 : decode cX8_token 241 = .ok (.dup, 1) := by decide +kernel
theorem dX8_token_242 : decode cX8_token 242 = .ok (.getfield 167, 3) := by decide +kernel
theorem dX8_token_245 : decode cX8_token 245 = .ok (.iload_n 2, 1) := by decide +kernel
theorem dX8_token_246 : decode cX8_token 246 = .ok (.iadd, 1) := by decide +kernel
theorem dX8_token_247 : decode cX8_token 247 = .ok (.putfield 167, 3) := by decide +kernel
theorem dX8_token_250 : decode cX8_token 250 = .ok (.return_, 1) := by decide +kernel
theorem dX8_wrong_0 : decode cX8_wrong 0 = .ok (.aload_n 0, 1) := by decide +kernel
theorem dX8_wrong_1 : decode cX8_wrong 1 = .ok (.getfield 200, 3) := by decide +kernel
theorem dX8_wrong_4 : decode cX8_wrong 4 = .ok (.ifCond .le 4, 3) := by decide +kernel
theorem dX8_wrong_7 : decode cX8_wrong 7 = .ok (.return_, 1) := by decide +kernel
theorem dX8_wrong_8 : decode cX8_wrong 8 = .ok (.aload_n 0, 1) := by decide +kernel
theorem dX8_wrong_9 : decode cX8_wrong 9 = .ok (.aload_n 0, 1) := by decide +kernel
theorem dX8_wrong_10 : decode cX8_wrong 10 = .ok (.getfield 187, 3) := by decide +kernel
theorem dX8_wrong_13 : decode cX8_wrong 13 = .ok (.iconst 3, 1) := by decide +kernel
theorem dX8_wrong_14 : decode cX8_wrong 14 = .ok (.if_icmp .ne 7, 3) := by decide +kernel
theorem dX8_wrong_17 : decode cX8_wrong 17 = .ok (.iconst 1, 1) := by decide +kernel
theorem dX8_wrong_18 : decode cX8_wrong 18 = .ok (.goto 4, 3) := by decide +kernel
theorem dX8_wrong_21 : decode cX8_wrong 21 = .ok (.iload_n 1, 1) := by decide +kernel
theorem dX8_wrong_22 : decode cX8_wrong 22 = .ok (.putfield 200, 3) := by decide +kernel
theorem dX8_wrong_25 : decode cX8_wrong 25 = .ok (.aload_n 0, 1) := by decide +kernel
theorem dX8_wrong_26 : decode cX8_wrong 26 = .ok (.aload_n 0, 1) := by decide +kernel
theorem dX8_wrong_27 : decode cX8_wrong 27 = .ok (.getfield 177, 3) := by decide +kernel
theorem dX8_wrong_30 : decode cX8_wrong 30 = .ok (.putfield 13, 3) := by decide +kernel
theorem dX8_wrong_33 : decode cX8_wrong 33 = .ok (.return_, 1) := by decide +kernel
theorem dX8_isWord_0 : decode cX8_isWord 0 = .ok (.aload_n 0, 1) := by decide +kernel
theorem dX8_isWord_1 : decode cX8_isWord 1 = .ok (.getfield 187, 3) := by decide +kernel
theorem dX8_isWord_4 : decode cX8_isWord 4 = .ok (.iconst 1, 1) := by decide +kernel
theorem dX8_isWord_5 : decode cX8_isWord 5 = .ok (.if_icmp .ne 16, 3) := by decide +kernel
theorem dX8_isWord_8 : decode cX8_isWord 8 = .ok (.aload_n 0, 1) := by decide +kernel
theorem dX8_isWord_9 : decode cX8_isWord 9 = .ok (.getfield 180, 3) := by decide +kernel
theorem dX8_isWord_12 : decode cX8_isWord 12 = .ok (.lload_n 1, 1) := by decide +kernel
theorem dX8_isWord_13 : decode cX8_isWord 13 = .ok (.lcmp, 1) := by decide +kernel
theorem dX8_isWord_14 : decode cX8_isWord 14 = .ok (.ifCond .ne 7, 3) := by decide +kernel
theorem dX8_isWord_17 : decode cX8_isWord 17 = .ok (.iconst 1, 1) := by decide +kernel
theorem dX8_isWord_18 : decode cX8_isWord 18 = .ok (.goto 4, 3) := by decide +kernel
theorem dX8_isWord_21 : decode cX8_isWord 21 = .ok (.iconst 0, 1) := by decide +kernel
theorem dX8_isWord_22 : decode cX8_isWord 22 = .ok (.ireturn, 1) := by decide +kernel
theorem dX8_want_0 : decode cX8_want 0 = .ok (.aload_n 0, 1) := by decide +kernel
theorem dX8_want_1 : decode cX8_want 1 = .ok (.getfield 200, 3) := by decide +kernel
theorem dX8_want_4 : decode cX8_want 4 = .ok (.ifCond .le 4, 3) := by decide +kernel
theorem dX8_want_7 : decode cX8_want 7 = .ok (.return_, 1) := by decide +kernel
theorem dX8_want_8 : decode cX8_want 8 = .ok (.aload_n 0, 1) := by decide +kernel
theorem dX8_want_9 : decode cX8_want 9 = .ok (.lload_n 1, 1) := by decide +kernel
theorem dX8_want_10 : decode cX8_want 10 = .ok (.invokevirtual 203, 3) := by decide +kernel
theorem dX8_want_13 : decode cX8_want 13 = .ok (.ifCond .ne 11, 3) := by decide +kernel
theorem dX8_want_16 : decode cX8_want 16 = .ok (.aload_n 0, 1) := by decide +kernel
theorem dX8_want_17 : decode cX8_want 17 = .ok (.iconst 2, 1) := by decide +kernel
theorem dX8_want_18 : decode cX8_want 18 = .ok (.invokevirtual 207, 3) := by decide +kernel
theorem dX8_want_21 : decode cX8_want 21 = .ok (.goto 7, 3) := by decide +kernel
theorem dX8_want_24 : decode cX8_want 24 = .ok (.aload_n 0, 1) := by decide +kernel
theorem dX8_want_25 : decode cX8_want 25 = .ok (.invokevirtual 210, 3) := by decide +kernel
theorem dX8_want_28 : decode cX8_want 28 = .ok (.return_, 1) := by decide +kernel
theorem dX8_toldNumber_0 : decode cX8_toldNumber 0 = .ok (.aload_n 0, 1) := by decide +kernel
theorem dX8_toldNumber_1 : decode cX8_toldNumber 1 = .ok (.getfield 200, 3) := by decide +kernel
theorem dX8_toldNumber_4 : decode cX8_toldNumber 4 = .ok (.ifCond .le 5, 3) := by decide +kernel
theorem dX8_toldNumber_7 : decode cX8_toldNumber 7 = .ok (.iconst 0, 1) := by decide +kernel
theorem dX8_toldNumber_8 : decode cX8_toldNumber 8 = .ok (.ireturn, 1) := by decide +kernel
theorem dX8_toldNumber_9 : decode cX8_toldNumber 9 = .ok (.aload_n 0, 1) := by decide +kernel
theorem dX8_toldNumber_10 : decode cX8_toldNumber 10 = .ok (.getfield 187, 3) := by decide +kernel
theorem dX8_toldNumber_13 : decode cX8_toldNumber 13 = .ok (.iconst 2, 1) := by decide +kernel
theorem dX8_toldNumber_14 : decode cX8_toldNumber 14 = .ok (.if_icmp .eq 11, 3) := by decide +kernel
theorem dX8_toldNumber_17 : decode cX8_toldNumber 17 = .ok (.aload_n 0, 1) := by decide +kernel
theorem dX8_toldNumber_18 : decode cX8_toldNumber 18 = .ok (.iconst 2, 1) := by decide +kernel
theorem dX8_toldNumber_19 : decode cX8_toldNumber 19 = .ok (.invokevirtual 207, 3) := by decide +kernel
theorem dX8_toldNumber_22 : decode cX8_toldNumber 22 = .ok (.goto 24, 3) := by decide +kernel
theorem dX8_toldNumber_25 : decode cX8_toldNumber 25 = .ok (.aload_n 0, 1) := by decide +kernel
theorem dX8_toldNumber_26 : decode cX8_toldNumber 26 = .ok (.getfield 184, 3) := by decide +kernel
theorem dX8_toldNumber_29 : decode cX8_toldNumber 29 = .ok (.iload_n 1, 1) := by decide +kernel
theorem dX8_toldNumber_30 : decode cX8_toldNumber 30 = .ok (.if_icmp .lt 11, 3) := by decide +kernel
theorem dX8_toldNumber_33 : decode cX8_toldNumber 33 = .ok (.aload_n 0, 1) := by decide +kernel
theorem dX8_toldNumber_34 : decode cX8_toldNumber 34 = .ok (.getfield 184, 3) := by decide +kernel
theorem dX8_toldNumber_37 : decode cX8_toldNumber 37 = .ok (.iload_n 2, 1) := by decide +kernel
theorem dX8_toldNumber_38 : decode cX8_toldNumber 38 = .ok (.if_icmp .le 8, 3) := by decide +kernel
theorem dX8_toldNumber_41 : decode cX8_toldNumber 41 = .ok (.aload_n 0, 1) := by decide +kernel
theorem dX8_toldNumber_42 : decode cX8_toldNumber 42 = .ok (.iconst 4, 1) := by decide +kernel
theorem dX8_toldNumber_43 : decode cX8_toldNumber 43 = .ok (.invokevirtual 207, 3) := by decide +kernel
theorem dX8_toldNumber_46 : decode cX8_toldNumber 46 = .ok (.aload_n 0, 1) := by decide +kernel
theorem dX8_toldNumber_47 : decode cX8_toldNumber 47 = .ok (.getfield 184, 3) := by decide +kernel
theorem dX8_toldNumber_50 : decode cX8_toldNumber 50 = .ok (.istore_n 3, 1) := by decide +kernel
theorem dX8_toldNumber_51 : decode cX8_toldNumber 51 = .ok (.aload_n 0, 1) := by decide +kernel
theorem dX8_toldNumber_52 : decode cX8_toldNumber 52 = .ok (.getfield 200, 3) := by decide +kernel
theorem dX8_toldNumber_55 : decode cX8_toldNumber 55 = .ok (.ifCond .ne 7, 3) := by decide +kernel
theorem dX8_toldNumber_58 : decode cX8_toldNumber 58 = .ok (.aload_n 0, 1) := by decide +kernel
theorem dX8_toldNumber_59 : decode cX8_toldNumber 59 = .ok (.invokevirtual 210, 3) := by decide +kernel
theorem dX8_toldNumber_62 : decode cX8_toldNumber 62 = .ok (.iload_n 3, 1) := by decide +kernel
theorem dX8_toldNumber_63 : decode cX8_toldNumber 63 = .ok (.ireturn, 1) := by decide +kernel
theorem dX8_told_0 : decode cX8_told 0 = .ok (.aload_n 0, 1) := by decide +kernel
theorem dX8_told_1 : decode cX8_told 1 = .ok (.lload_n 1, 1) := by decide +kernel
theorem dX8_told_2 : decode cX8_told 2 = .ok (.invokevirtual 213, 3) := by decide +kernel
theorem dX8_told_5 : decode cX8_told 5 = .ok (.aload_n 0, 1) := by decide +kernel
theorem dX8_told_6 : decode cX8_told 6 = .ok (.iload_n 3, 1) := by decide +kernel
theorem dX8_told_7 : decode cX8_told 7 = .ok (.iload 4, 2) := by decide +kernel
theorem dX8_told_9 : decode cX8_told 9 = .ok (.invokevirtual 217, 3) := by decide +kernel
theorem dX8_told_12 : decode cX8_told 12 = .ok (.ireturn, 1) := by decide +kernel
theorem dX8_note_0 : decode cX8_note 0 = .ok (.aload_n 0, 1) := by decide +kernel
theorem dX8_note_1 : decode cX8_note 1 = .ok (.getfield 54, 3) := by decide +kernel
theorem dX8_note_4 : decode cX8_note 4 = .ok (.aload_n 0, 1) := by decide +kernel
theorem dX8_note_5 : decode cX8_note 5 = .ok (.getfield 221, 3) := by decide +kernel
theorem dX8_note_8 : decode cX8_note 8 = .ok (.iload_n 1, 1) := by decide +kernel
theorem dX8_note_9 : decode cX8_note 9 = .ok (.iastore, 1) := by decide +kernel
theorem dX8_note_10 : decode cX8_note 10 = .ok (.aload_n 0, 1) := by decide +kernel
theorem dX8_note_11 : decode cX8_note 11 = .ok (.getfield 57, 3) := by decide +kernel
theorem dX8_note_14 : decode cX8_note 14 = .ok (.aload_n 0, 1) := by decide +kernel
theorem dX8_note_15 : decode cX8_note 15 = .ok (.getfield 221, 3) := by decide +kernel
theorem dX8_note_18 : decode cX8_note 18 = .ok (.iload_n 2, 1) := by decide +kernel
theorem dX8_note_19 : decode cX8_note 19 = .ok (.iastore, 1) := by decide +kernel
theorem dX8_note_20 : decode cX8_note 20 = .ok (.aload_n 0, 1) := by decide +kernel
theorem dX8_note_21 : decode cX8_note 21 = .ok (.dup, 1) := by decide +kernel
theorem dX8_note_22 : decode cX8_note 22 = .ok (.getfield 221, 3) := by decide +kernel
theorem dX8_note_25 : decode cX8_note 25 = .ok (.iconst 1, 1) := by decide +kernel
theorem dX8_note_26 : decode cX8_note 26 = .ok (.iadd, 1) := by decide +kernel
theorem dX8_note_27 : decode cX8_note 27 = .ok (.putfield 221, 3) := by decide +kernel
theorem dX8_note_30 : decode cX8_note 30 = .ok (.return_, 1) := by decide +kernel
theorem dX8_upper_0 : decode cX8_upper 0 = .ok (.aload_n 0, 1) := by decide +kernel
theorem dX8_upper_1 : decode cX8_upper 1 = .ok (.getfield 224, 3) := by decide +kernel
theorem dX8_upper_4 : decode cX8_upper 4 = .ok (.ifCond .ne 8, 3) := by decide +kernel
theorem dX8_upper_7 : decode cX8_upper 7 = .ok (.bipush 30, 2) := by decide +kernel
theorem dX8_upper_9 : decode cX8_upper 9 = .ok (.goto 14, 3) := by decide +kernel
theorem dX8_upper_12 : decode cX8_upper 12 = .ok (.aload_n 0, 1) := by decide +kernel
theorem dX8_upper_13 : decode cX8_upper 13 = .ok (.getfield 66, 3) := by decide +kernel
theorem dX8_upper_16 : decode cX8_upper 16 = .ok (.aload_n 0, 1) := by decide +kernel
theorem dX8_upper_17 : decode cX8_upper 17 = .ok (.getfield 224, 3) := by decide +kernel
theorem dX8_upper_20 : decode cX8_upper 20 = .ok (.iconst 1, 1) := by decide +kernel
theorem dX8_upper_21 : decode cX8_upper 21 = .ok (.isub, 1) := by decide +kernel
theorem dX8_upper_22 : decode cX8_upper 22 = .ok (.iaload, 1) := by decide +kernel
theorem dX8_upper_23 : decode cX8_upper 23 = .ok (.ireturn, 1) := by decide +kernel
theorem dX8_hold_0 : decode cX8_hold 0 = .ok (.aload_n 0, 1) := by decide +kernel
theorem dX8_hold_1 : decode cX8_hold 1 = .ok (.getfield 66, 3) := by decide +kernel
theorem dX8_hold_4 : decode cX8_hold 4 = .ok (.aload_n 0, 1) := by decide +kernel
theorem dX8_hold_5 : decode cX8_hold 5 = .ok (.getfield 224, 3) := by decide +kernel
theorem dX8_hold_8 : decode cX8_hold 8 = .ok (.iload_n 1, 1) := by decide +kernel
theorem dX8_hold_9 : decode cX8_hold 9 = .ok (.iastore, 1) := by decide +kernel
theorem dX8_hold_10 : decode cX8_hold 10 = .ok (.aload_n 0, 1) := by decide +kernel
theorem dX8_hold_11 : decode cX8_hold 11 = .ok (.dup, 1) := by decide +kernel
theorem dX8_hold_12 : decode cX8_hold 12 = .ok (.getfield 224, 3) := by decide +kernel
theorem dX8_hold_15 : decode cX8_hold 15 = .ok (.iconst 1, 1) := by decide +kernel
theorem dX8_hold_16 : decode cX8_hold 16 = .ok (.iadd, 1) := by decide +kernel
theorem dX8_hold_17 : decode cX8_hold 17 = .ok (.putfield 224, 3) := by decide +kernel
theorem dX8_hold_20 : decode cX8_hold 20 = .ok (.iload_n 1, 1) := by decide +kernel
theorem dX8_hold_21 : decode cX8_hold 21 = .ok (.bipush 30, 2) := by decide +kernel
theorem dX8_hold_23 : decode cX8_hold 23 = .ok (.if_icmp .eq 9, 3) := by decide +kernel
theorem dX8_hold_26 : decode cX8_hold 26 = .ok (.iload_n 1, 1) := by decide +kernel
theorem dX8_hold_27 : decode cX8_hold 27 = .ok (.bipush 22, 2) := by decide +kernel
theorem dX8_hold_29 : decode cX8_hold 29 = .ok (.if_icmp .ne 13, 3) := by decide +kernel
theorem dX8_hold_32 : decode cX8_hold 32 = .ok (.aload_n 0, 1) := by decide +kernel
theorem dX8_hold_33 : decode cX8_hold 33 = .ok (.dup, 1) := by decide +kernel
theorem dX8_hold_34 : decode cX8_hold 34 = .ok (.getfield 227, 3) := by decide +kernel
theorem dX8_hold_37 : decode cX8_hold 37 = .ok (.iconst 1, 1) := by decide +kernel
theorem dX8_hold_38 : decode cX8_hold 38 = .ok (.iadd, 1) := by decide +kernel
theorem dX8_hold_39 : decode cX8_hold 39 = .ok (.putfield 227, 3) := by decide +kernel
theorem dX8_hold_42 : decode cX8_hold 42 = .ok (.return_, 1) := by decide +kernel
theorem dX8_pop_0 : decode cX8_pop 0 = .ok (.aload_n 0, 1) := by decide +kernel
theorem dX8_pop_1 : decode cX8_pop 1 = .ok (.dup, 1) := by decide +kernel
theorem dX8_pop_2 : decode cX8_pop 2 = .ok (.getfield 224, 3) := by decide +kernel
theorem dX8_pop_5 : decode cX8_pop 5 = .ok (.iconst 1, 1) := by decide +kernel
theorem dX8_pop_6 : decode cX8_pop 6 = .ok (.isub, 1) := by decide +kernel
theorem dX8_pop_7 : decode cX8_pop 7 = .ok (.putfield 224, 3) := by decide +kernel
theorem dX8_pop_10 : decode cX8_pop 10 = .ok (.aload_n 0, 1) := by decide +kernel
theorem dX8_pop_11 : decode cX8_pop 11 = .ok (.getfield 66, 3) := by decide +kernel
theorem dX8_pop_14 : decode cX8_pop 14 = .ok (.aload_n 0, 1) := by decide +kernel
theorem dX8_pop_15 : decode cX8_pop 15 = .ok (.getfield 224, 3) := by decide +kernel
theorem dX8_pop_18 : decode cX8_pop 18 = .ok (.iaload, 1) := by decide +kernel
theorem dX8_pop_19 : decode cX8_pop 19 = .ok (.bipush 22, 2) := by decide +kernel
theorem dX8_pop_21 : decode cX8_pop 21 = .ok (.if_icmp .ne 13, 3) := by decide +kernel
theorem dX8_pop_24 : decode cX8_pop 24 = .ok (.aload_n 0, 1) := by decide +kernel
theorem dX8_pop_25 : decode cX8_pop 25 = .ok (.dup, 1) := by decide +kernel
theorem dX8_pop_26 : decode cX8_pop 26 = .ok (.getfield 227, 3) := by decide +kernel
theorem dX8_pop_29 : decode cX8_pop 29 = .ok (.iconst 1, 1) := by decide +kernel
theorem dX8_pop_30 : decode cX8_pop 30 = .ok (.isub, 1) := by decide +kernel
theorem dX8_pop_31 : decode cX8_pop 31 = .ok (.putfield 227, 3) := by decide +kernel
theorem dX8_pop_34 : decode cX8_pop 34 = .ok (.aload_n 0, 1) := by decide +kernel
theorem dX8_pop_35 : decode cX8_pop 35 = .ok (.aload_n 0, 1) := by decide +kernel
theorem dX8_pop_36 : decode cX8_pop 36 = .ok (.getfield 66, 3) := by decide +kernel
theorem dX8_pop_39 : decode cX8_pop 39 = .ok (.aload_n 0, 1) := by decide +kernel
theorem dX8_pop_40 : decode cX8_pop 40 = .ok (.getfield 224, 3) := by decide +kernel
theorem dX8_pop_43 : decode cX8_pop 43 = .ok (.iaload, 1) := by decide +kernel
theorem dX8_pop_44 : decode cX8_pop 44 = .ok (.iconst 0, 1) := by decide +kernel
theorem dX8_pop_45 : decode cX8_pop 45 = .ok (.invokevirtual 230, 3) := by decide +kernel
theorem dX8_pop_48 : decode cX8_pop 48 = .ok (.return_, 1) := by decide +kernel
theorem dX8_settle_0 : decode cX8_settle 0 = .ok (.aload_n 0, 1) := by decide +kernel
theorem dX8_settle_1 : decode cX8_settle 1 = .ok (.invokevirtual 234, 3) := by decide +kernel
theorem dX8_settle_4 : decode cX8_settle 4 = .ok (.bipush 30, 2) := by decide +kernel
theorem dX8_settle_6 : decode cX8_settle 6 = .ok (.if_icmp .eq 18, 3) := by decide +kernel
theorem dX8_settle_9 : decode cX8_settle 9 = .ok (.aload_n 0, 1) := by decide +kernel
theorem dX8_settle_10 : decode cX8_settle 10 = .ok (.invokevirtual 234, 3) := by decide +kernel
theorem dX8_settle_13 : decode cX8_settle 13 = .ok (.iload_n 1, 1) := by decide +kernel
theorem dX8_settle_14 : decode cX8_settle 14 = .ok (.if_icmp .lt 10, 3) := by decide +kernel
theorem dX8_settle_17 : decode cX8_settle 17 = .ok (.aload_n 0, 1) := by decide +kernel
theorem dX8_settle_18 : decode cX8_settle 18 = .ok (.invokevirtual 238, 3) := by decide +kernel
theorem dX8_settle_21 : decode cX8_settle 21 = .ok (.goto (-21), 3) := by decide +kernel
theorem dX8_settle_24 : decode cX8_settle 24 = .ok (.return_, 1) := by decide +kernel
theorem dX8_isOpen_0 : decode cX8_isOpen 0 = .ok (.iconst 0, 1) := by decide +kernel
theorem dX8_isOpen_1 : decode cX8_isOpen 1 = .ok (.istore_n 1, 1) := by decide +kernel
theorem dX8_isOpen_2 : decode cX8_isOpen 2 = .ok (.iconst 0, 1) := by decide +kernel
theorem dX8_isOpen_3 : decode cX8_isOpen 3 = .ok (.istore_n 2, 1) := by decide +kernel
theorem dX8_isOpen_4 : decode cX8_isOpen 4 = .ok (.iload_n 2, 1) := by decide +kernel
theorem dX8_isOpen_5 : decode cX8_isOpen 5 = .ok (.aload_n 0, 1) := by decide +kernel
theorem dX8_isOpen_6 : decode cX8_isOpen 6 = .ok (.getfield 224, 3) := by decide +kernel
theorem dX8_isOpen_9 : decode cX8_isOpen 9 = .ok (.if_icmp .ge 30, 3) := by decide +kernel
theorem dX8_isOpen_12 : decode cX8_isOpen 12 = .ok (.iload_n 1, 1) := by decide +kernel
theorem dX8_isOpen_13 : decode cX8_isOpen 13 = .ok (.ifCond .ne 14, 3) := by decide +kernel
theorem dX8_isOpen_16 : decode cX8_isOpen 16 = .ok (.aload_n 0, 1) := by decide +kernel
theorem dX8_isOpen_17 : decode cX8_isOpen 17 = .ok (.getfield 66, 3) := by decide +kernel
theorem dX8_isOpen_20 : decode cX8_isOpen 20 = .ok (.iload_n 2, 1) := by decide +kernel
theorem dX8_isOpen_21 : decode cX8_isOpen 21 = .ok (.iaload, 1) := by decide +kernel
theorem dX8_isOpen_22 : decode cX8_isOpen 22 = .ok (.bipush 30, 2) := by decide +kernel
theorem dX8_isOpen_24 : decode cX8_isOpen 24 = .ok (.if_icmp .ne 7, 3) := by decide +kernel
theorem dX8_isOpen_27 : decode cX8_isOpen 27 = .ok (.iconst 1, 1) := by decide +kernel
theorem dX8_isOpen_28 : decode cX8_isOpen 28 = .ok (.goto 4, 3) := by decide +kernel
theorem dX8_isOpen_31 : decode cX8_isOpen 31 = .ok (.iconst 0, 1) := by decide +kernel
theorem dX8_isOpen_32 : decode cX8_isOpen 32 = .ok (.istore_n 1, 1) := by decide +kernel
theorem dX8_isOpen_33 : decode cX8_isOpen 33 = .ok (.iinc 2 1, 3) := by decide +kernel
theorem dX8_isOpen_36 : decode cX8_isOpen 36 = .ok (.goto (-32), 3) := by decide +kernel
theorem dX8_isOpen_39 : decode cX8_isOpen 39 = .ok (.iload_n 1, 1) := by decide +kernel
theorem dX8_isOpen_40 : decode cX8_isOpen 40 = .ok (.ireturn, 1) := by decide +kernel
theorem dX8_rank_0 : decode cX8_rank 0 = .ok (.iload_n 0, 1) := by decide +kernel
theorem dX8_rank_1 : decode cX8_rank 1 = .ok (.bipush 27, 2) := by decide +kernel
theorem dX8_rank_3 : decode cX8_rank 3 = .ok (.if_icmp .ne 8, 3) := by decide +kernel
theorem dX8_rank_6 : decode cX8_rank 6 = .ok (.bipush 26, 2) := by decide +kernel
theorem dX8_rank_8 : decode cX8_rank 8 = .ok (.goto 21, 3) := by decide +kernel
theorem dX8_rank_11 : decode cX8_rank 11 = .ok (.iload_n 0, 1) := by decide +kernel
theorem dX8_rank_12 : decode cX8_rank 12 = .ok (.bipush 24, 2) := by decide +kernel
theorem dX8_rank_14 : decode cX8_rank 14 = .ok (.if_icmp .eq 9, 3) := by decide +kernel
theorem dX8_rank_17 : decode cX8_rank 17 = .ok (.iload_n 0, 1) := by decide +kernel
theorem dX8_rank_18 : decode cX8_rank 18 = .ok (.bipush 25, 2) := by decide +kernel
theorem dX8_rank_20 : decode cX8_rank 20 = .ok (.if_icmp .ne 8, 3) := by decide +kernel
theorem dX8_rank_23 : decode cX8_rank 23 = .ok (.bipush 23, 2) := by decide +kernel
theorem dX8_rank_25 : decode cX8_rank 25 = .ok (.goto 4, 3) := by decide +kernel
theorem dX8_rank_28 : decode cX8_rank 28 = .ok (.iload_n 0, 1) := by decide +kernel
theorem dX8_rank_29 : decode cX8_rank 29 = .ok (.ireturn, 1) := by decide +kernel
theorem dX8_known_0 : decode cX8_known 0 = .ok (.aload_n 0, 1) := by decide +kernel
theorem dX8_known_1 : decode cX8_known 1 = .ok (.ldc2_w 241, 3) := by decide +kernel
theorem dX8_known_4 : decode cX8_known 4 = .ok (.invokevirtual 203, 3) := by decide +kernel
theorem dX8_known_7 : decode cX8_known 7 = .ok (.ifCond .eq 7, 3) := by decide +kernel
theorem dX8_known_10 : decode cX8_known 10 = .ok (.iconst 1, 1) := by decide +kernel
theorem dX8_known_11 : decode cX8_known 11 = .ok (.goto 90, 3) := by decide +kernel
theorem dX8_known_14 : decode cX8_known 14 = .ok (.aload_n 0, 1) := by decide +kernel
theorem dX8_known_15 : decode cX8_known 15 = .ok (.ldc2_w 243, 3) := by decide +kernel
theorem dX8_known_18 : decode cX8_known 18 = .ok (.invokevirtual 203, 3) := by decide +kernel
theorem dX8_known_21 : decode cX8_known 21 = .ok (.ifCond .eq 7, 3) := by decide +kernel
theorem dX8_known_24 : decode cX8_known 24 = .ok (.iconst 2, 1) := by decide +kernel
theorem dX8_known_25 : decode cX8_known 25 = .ok (.goto 76, 3) := by decide +kernel
theorem dX8_known_28 : decode cX8_known 28 = .ok (.aload_n 0, 1) := by decide +kernel
theorem dX8_known_29 : decode cX8_known 29 = .ok (.ldc2_w 245, 3) := by decide +kernel
theorem dX8_known_32 : decode cX8_known 32 = .ok (.invokevirtual 203, 3) := by decide +kernel
theorem dX8_known_35 : decode cX8_known 35 = .ok (.ifCond .eq 7, 3) := by decide +kernel
theorem dX8_known_38 : decode cX8_known 38 = .ok (.iconst 3, 1) := by decide +kernel
theorem dX8_known_39 : decode cX8_known 39 = .ok (.goto 62, 3) := by decide +kernel
theorem dX8_known_42 : decode cX8_known 42 = .ok (.aload_n 0, 1) := by decide +kernel
theorem dX8_known_43 : decode cX8_known 43 = .ok (.ldc2_w 247, 3) := by decide +kernel
theorem dX8_known_46 : decode cX8_known 46 = .ok (.invokevirtual 203, 3) := by decide +kernel
theorem dX8_known_49 : decode cX8_known 49 = .ok (.ifCond .eq 7, 3) := by decide +kernel
theorem dX8_known_52 : decode cX8_known 52 = .ok (.iconst 4, 1) := by decide +kernel
theorem dX8_known_53 : decode cX8_known 53 = .ok (.goto 48, 3) := by decide +kernel
theorem dX8_known_56 : decode cX8_known 56 = .ok (.aload_n 0, 1) := by decide +kernel
theorem dX8_known_57 : decode cX8_known 57 = .ok (.ldc2_w 249, 3) := by decide +kernel
theorem dX8_known_60 : decode cX8_known 60 = .ok (.invokevirtual 203, 3) := by decide +kernel
theorem dX8_known_63 : decode cX8_known 63 = .ok (.ifCond .eq 7, 3) := by decide +kernel
theorem dX8_known_66 : decode cX8_known 66 = .ok (.iconst 5, 1) := by decide +kernel
theorem dX8_known_67 : decode cX8_known 67 = .ok (.goto 34, 3) := by decide +kernel
theorem dX8_known_70 : decode cX8_known 70 = .ok (.aload_n 0, 1) := by decide +kernel
theorem dX8_known_71 : decode cX8_known 71 = .ok (.ldc2_w 251, 3) := by decide +kernel
theorem dX8_known_74 : decode cX8_known 74 = .ok (.invokevirtual 203, 3) := by decide +kernel
theorem dX8_known_77 : decode cX8_known 77 = .ok (.ifCond .eq 8, 3) := by decide +kernel
theorem dX8_known_80 : decode cX8_known 80 = .ok (.bipush 6, 2) := by decide +kernel
theorem dX8_known_82 : decode cX8_known 82 = .ok (.goto 19, 3) := by decide +kernel
theorem dX8_known_85 : decode cX8_known 85 = .ok (.aload_n 0, 1) := by decide +kernel
theorem dX8_known_86 : decode cX8_known 86 = .ok (.ldc2_w 253, 3) := by decide +kernel
theorem dX8_known_89 : decode cX8_known 89 = .ok (.invokevirtual 203, 3) := by decide +kernel
theorem dX8_known_92 : decode cX8_known 92 = .ok (.ifCond .eq 8, 3) := by decide +kernel
theorem dX8_known_95 : decode cX8_known 95 = .ok (.bipush 7, 2) := by decide +kernel
theorem dX8_known_97 : decode cX8_known 97 = .ok (.goto 4, 3) := by decide +kernel
theorem dX8_known_100 : decode cX8_known 100 = .ok (.iconst (-1), 1) := by decide +kernel
theorem dX8_known_101 : decode cX8_known 101 = .ok (.ireturn, 1) := by decide +kernel
theorem dX8_operand_0 : decode cX8_operand 0 = .ok (.iload_n 1, 1) := by decide +kernel
theorem dX8_operand_1 : decode cX8_operand 1 = .ok (.ifCond .ne 17, 3) := by decide +kernel
theorem dX8_operand_4 : decode cX8_operand 4 = .ok (.aload_n 0, 1) := by decide +kernel
theorem dX8_operand_5 : decode cX8_operand 5 = .ok (.ldc2_w 255, 3) := by decide +kernel
theorem dX8_operand_8 : decode cX8_operand 8 = .ok (.invokevirtual 203, 3) := by decide +kernel
theorem dX8_operand_11 : decode cX8_operand 11 = .ok (.ifCond .eq 7, 3) := by decide +kernel
theorem dX8_operand_14 : decode cX8_operand 14 = .ok (.iconst 1, 1) := by decide +kernel
theorem dX8_operand_15 : decode cX8_operand 15 = .ok (.goto 4, 3) := by decide +kernel
theorem dX8_operand_18 : decode cX8_operand 18 = .ok (.iconst 0, 1) := by decide +kernel
theorem dX8_operand_19 : decode cX8_operand 19 = .ok (.istore_n 2, 1) := by decide +kernel
theorem dX8_operand_20 : decode cX8_operand 20 = .ok (.aload_n 0, 1) := by decide +kernel
theorem dX8_operand_21 : decode cX8_operand 21 = .ok (.invokevirtual 257, 3) := by decide +kernel
theorem dX8_operand_24 : decode cX8_operand 24 = .ok (.istore_n 3, 1) := by decide +kernel
theorem dX8_operand_25 : decode cX8_operand 25 = .ok (.aload_n 0, 1) := by decide +kernel
theorem dX8_operand_26 : decode cX8_operand 26 = .ok (.getfield 187, 3) := by decide +kernel
theorem dX8_operand_29 : decode cX8_operand 29 = .ok (.iconst 2, 1) := by decide +kernel
theorem dX8_operand_30 : decode cX8_operand 30 = .ok (.if_icmp .eq 16, 3) := by decide +kernel
theorem dX8_operand_33 : decode cX8_operand 33 = .ok (.aload_n 0, 1) := by decide +kernel
theorem dX8_operand_34 : decode cX8_operand 34 = .ok (.getfield 187, 3) := by decide +kernel
theorem dX8_operand_37 : decode cX8_operand 37 = .ok (.bipush 40, 2) := by decide +kernel
theorem dX8_operand_39 : decode cX8_operand 39 = .ok (.if_icmp .eq 7, 3) := by decide +kernel
theorem dX8_operand_42 : decode cX8_operand 42 = .ok (.iload_n 3, 1) := by decide +kernel
theorem dX8_operand_43 : decode cX8_operand 43 = .ok (.ifCond .lt 7, 3) := by decide +kernel
theorem dX8_operand_46 : decode cX8_operand 46 = .ok (.iconst 1, 1) := by decide +kernel
theorem dX8_operand_47 : decode cX8_operand 47 = .ok (.goto 4, 3) := by decide +kernel
theorem dX8_operand_50 : decode cX8_operand 50 = .ok (.iconst 0, 1) := by decide +kernel
theorem dX8_operand_51 : decode cX8_operand 51 = .ok (.istore 4, 2) := by decide +kernel
theorem dX8_operand_53 : decode cX8_operand 53 = .ok (.iload_n 2, 1) := by decide +kernel
theorem dX8_operand_54 : decode cX8_operand 54 = .ok (.ifCond .ne 8, 3) := by decide +kernel
theorem dX8_operand_57 : decode cX8_operand 57 = .ok (.iload 4, 2) := by decide +kernel
theorem dX8_operand_59 : decode cX8_operand 59 = .ok (.ifCond .eq 39, 3) := by decide +kernel
theorem dX8_operand_62 : decode cX8_operand 62 = .ok (.iload 4, 2) := by decide +kernel
theorem dX8_operand_64 : decode cX8_operand 64 = .ok (.ifCond .eq 12, 3) := by decide +kernel
theorem dX8_operand_67 : decode cX8_operand 67 = .ok (.aload_n 0, 1) := by decide +kernel
theorem dX8_operand_68 : decode cX8_operand 68 = .ok (.getfield 260, 3) := by decide +kernel
theorem dX8_operand_71 : decode cX8_operand 71 = .ok (.bipush 30, 2) := by decide +kernel
theorem dX8_operand_73 : decode cX8_operand 73 = .ok (.if_icmp .eq 25, 3) := by decide +kernel
theorem dX8_operand_76 : decode cX8_operand 76 = .ok (.iload_n 2, 1) := by decide +kernel
theorem dX8_operand_77 : decode cX8_operand 77 = .ok (.ifCond .ne 12, 3) := by decide +kernel
theorem dX8_operand_80 : decode cX8_operand 80 = .ok (.aload_n 0, 1) := by decide +kernel
theorem dX8_operand_81 : decode cX8_operand 81 = .ok (.getfield 187, 3) := by decide +kernel
theorem dX8_operand_84 : decode cX8_operand 84 = .ok (.bipush 40, 2) := by decide +kernel
theorem dX8_operand_86 : decode cX8_operand 86 = .ok (.if_icmp .ne 17, 3) := by decide +kernel
theorem dX8_operand_89 : decode cX8_operand 89 = .ok (.aload_n 0, 1) := by decide +kernel
theorem dX8_operand_90 : decode cX8_operand 90 = .ok (.getfield 227, 3) := by decide +kernel
theorem dX8_operand_93 : decode cX8_operand 93 = .ok (.bipush 7, 2) := by decide +kernel
theorem dX8_operand_95 : decode cX8_operand 95 = .ok (.if_icmp .lt 8, 3) := by decide +kernel
theorem dX8_operand_98 : decode cX8_operand 98 = .ok (.aload_n 0, 1) := by decide +kernel
theorem dX8_operand_99 : decode cX8_operand 99 = .ok (.iconst 2, 1) := by decide +kernel
theorem dX8_operand_100 : decode cX8_operand 100 = .ok (.invokevirtual 207, 3) := by decide +kernel
theorem dX8_operand_103 : decode cX8_operand 103 = .ok (.aload_n 0, 1) := by decide +kernel
theorem dX8_operand_104 : decode cX8_operand 104 = .ok (.getfield 200, 3) := by decide +kernel
theorem dX8_operand_107 : decode cX8_operand 107 = .ok (.ifCond .le 5, 3) := by decide +kernel
theorem dX8_operand_110 : decode cX8_operand 110 = .ok (.iload_n 1, 1) := by decide +kernel
theorem dX8_operand_111 : decode cX8_operand 111 = .ok (.ireturn, 1) := by decide +kernel
theorem dX8_operand_112 : decode cX8_operand 112 = .ok (.iload_n 2, 1) := by decide +kernel
theorem dX8_operand_113 : decode cX8_operand 113 = .ok (.ifCond .eq 15, 3) := by decide +kernel
theorem dX8_operand_116 : decode cX8_operand 116 = .ok (.aload_n 0, 1) := by decide +kernel
theorem dX8_operand_117 : decode cX8_operand 117 = .ok (.bipush 22, 2) := by decide +kernel
theorem dX8_operand_119 : decode cX8_operand 119 = .ok (.invokevirtual 263, 3) := by decide +kernel
theorem dX8_operand_122 : decode cX8_operand 122 = .ok (.aload_n 0, 1) := by decide +kernel
theorem dX8_operand_123 : decode cX8_operand 123 = .ok (.invokevirtual 210, 3) := by decide +kernel
theorem dX8_operand_126 : decode cX8_operand 126 = .ok (.iconst 0, 1) := by decide +kernel
theorem dX8_operand_127 : decode cX8_operand 127 = .ok (.ireturn, 1) := by decide +kernel
theorem dX8_operand_128 : decode cX8_operand 128 = .ok (.aload_n 0, 1) := by decide +kernel
theorem dX8_operand_129 : decode cX8_operand 129 = .ok (.dup, 1) := by decide +kernel
theorem dX8_operand_130 : decode cX8_operand 130 = .ok (.getfield 260, 3) := by decide +kernel
theorem dX8_operand_133 : decode cX8_operand 133 = .ok (.iconst 1, 1) := by decide +kernel
theorem dX8_operand_134 : decode cX8_operand 134 = .ok (.iadd, 1) := by decide +kernel
theorem dX8_operand_135 : decode cX8_operand 135 = .ok (.putfield 260, 3) := by decide +kernel
theorem dX8_operand_138 : decode cX8_operand 138 = .ok (.aload_n 0, 1) := by decide +kernel
theorem dX8_operand_139 : decode cX8_operand 139 = .ok (.getfield 187, 3) := by decide +kernel
theorem dX8_operand_142 : decode cX8_operand 142 = .ok (.bipush 40, 2) := by decide +kernel
theorem dX8_operand_144 : decode cX8_operand 144 = .ok (.if_icmp .ne 15, 3) := by decide +kernel
theorem dX8_operand_147 : decode cX8_operand 147 = .ok (.aload_n 0, 1) := by decide +kernel
theorem dX8_operand_148 : decode cX8_operand 148 = .ok (.bipush 30, 2) := by decide +kernel
theorem dX8_operand_150 : decode cX8_operand 150 = .ok (.invokevirtual 263, 3) := by decide +kernel
theorem dX8_operand_153 : decode cX8_operand 153 = .ok (.aload_n 0, 1) := by decide +kernel
theorem dX8_operand_154 : decode cX8_operand 154 = .ok (.invokevirtual 210, 3) := by decide +kernel
theorem dX8_operand_157 : decode cX8_operand 157 = .ok (.iconst 0, 1) := by decide +kernel
theorem dX8_operand_158 : decode cX8_operand 158 = .ok (.ireturn, 1) := by decide +kernel
theorem dX8_operand_159 : decode cX8_operand 159 = .ok (.aload_n 0, 1) := by decide +kernel
theorem dX8_operand_160 : decode cX8_operand 160 = .ok (.iload_n 3, 1) := by decide +kernel
theorem dX8_operand_161 : decode cX8_operand 161 = .ok (.ifCond .ge 7, 3) := by decide +kernel
theorem dX8_operand_164 : decode cX8_operand 164 = .ok (.iconst 0, 1) := by decide +kernel
theorem dX8_operand_165 : decode cX8_operand 165 = .ok (.goto 4, 3) := by decide +kernel
theorem dX8_operand_168 : decode cX8_operand 168 = .ok (.iload_n 3, 1) := by decide +kernel
theorem dX8_operand_169 : decode cX8_operand 169 = .ok (.aload_n 0, 1) := by decide +kernel
theorem dX8_operand_170 : decode cX8_operand 170 = .ok (.getfield 184, 3) := by decide +kernel
theorem dX8_operand_173 : decode cX8_operand 173 = .ok (.invokevirtual 230, 3) := by decide +kernel
theorem dX8_operand_176 : decode cX8_operand 176 = .ok (.aload_n 0, 1) := by decide +kernel
theorem dX8_operand_177 : decode cX8_operand 177 = .ok (.invokevirtual 210, 3) := by decide +kernel
theorem dX8_operand_180 : decode cX8_operand 180 = .ok (.iconst 2, 1) := by decide +kernel
theorem dX8_operand_181 : decode cX8_operand 181 = .ok (.ireturn, 1) := by decide +kernel
theorem dX8_sign_0 : decode cX8_sign 0 = .ok (.aload_n 0, 1) := by decide +kernel
theorem dX8_sign_1 : decode cX8_sign 1 = .ok (.getfield 187, 3) := by decide +kernel
theorem dX8_sign_4 : decode cX8_sign 4 = .ok (.bipush 43, 2) := by decide +kernel
theorem dX8_sign_6 : decode cX8_sign 6 = .ok (.if_icmp .ne 8, 3) := by decide +kernel
theorem dX8_sign_9 : decode cX8_sign 9 = .ok (.bipush 26, 2) := by decide +kernel
theorem dX8_sign_11 : decode cX8_sign 11 = .ok (.goto 104, 3) := by decide +kernel
theorem dX8_sign_14 : decode cX8_sign 14 = .ok (.aload_n 0, 1) := by decide +kernel
theorem dX8_sign_15 : decode cX8_sign 15 = .ok (.getfield 187, 3) := by decide +kernel
theorem dX8_sign_18 : decode cX8_sign 18 = .ok (.bipush 45, 2) := by decide +kernel
theorem dX8_sign_20 : decode cX8_sign 20 = .ok (.if_icmp .ne 8, 3) := by decide +kernel
theorem dX8_sign_23 : decode cX8_sign 23 = .ok (.bipush 27, 2) := by decide +kernel
theorem dX8_sign_25 : decode cX8_sign 25 = .ok (.goto 90, 3) := by decide +kernel
theorem dX8_sign_28 : decode cX8_sign 28 = .ok (.aload_n 0, 1) := by decide +kernel
theorem dX8_sign_29 : decode cX8_sign 29 = .ok (.getfield 187, 3) := by decide +kernel
theorem dX8_sign_32 : decode cX8_sign 32 = .ok (.bipush 42, 2) := by decide +kernel
theorem dX8_sign_34 : decode cX8_sign 34 = .ok (.if_icmp .ne 8, 3) := by decide +kernel
theorem dX8_sign_37 : decode cX8_sign 37 = .ok (.bipush 28, 2) := by decide +kernel
theorem dX8_sign_39 : decode cX8_sign 39 = .ok (.goto 76, 3) := by decide +kernel
theorem dX8_sign_42 : decode cX8_sign 42 = .ok (.aload_n 0, 1) := by decide +kernel
theorem dX8_sign_43 : decode cX8_sign 43 = .ok (.getfield 187, 3) := by decide +kernel
theorem dX8_sign_46 : decode cX8_sign 46 = .ok (.bipush 61, 2) := by decide +kernel
theorem dX8_sign_48 : decode cX8_sign 48 = .ok (.if_icmp .ne 8, 3) := by decide +kernel
theorem dX8_sign_51 : decode cX8_sign 51 = .ok (.bipush 23, 2) := by decide +kernel
theorem dX8_sign_53 : decode cX8_sign 53 = .ok (.goto 62, 3) := by decide +kernel
theorem dX8_sign_56 : decode cX8_sign 56 = .ok (.aload_n 0, 1) := by decide +kernel
theorem dX8_sign_57 : decode cX8_sign 57 = .ok (.getfield 187, 3) := by decide +kernel
theorem dX8_sign_60 : decode cX8_sign 60 = .ok (.bipush 60, 2) := by decide +kernel
theorem dX8_sign_62 : decode cX8_sign 62 = .ok (.if_icmp .ne 8, 3) := by decide +kernel
theorem dX8_sign_65 : decode cX8_sign 65 = .ok (.bipush 24, 2) := by decide +kernel
theorem dX8_sign_67 : decode cX8_sign 67 = .ok (.goto 48, 3) := by decide +kernel
theorem dX8_sign_70 : decode cX8_sign 70 = .ok (.aload_n 0, 1) := by decide +kernel
theorem dX8_sign_71 : decode cX8_sign 71 = .ok (.getfield 187, 3) := by decide +kernel
theorem dX8_sign_74 : decode cX8_sign 74 = .ok (.bipush 62, 2) := by decide +kernel
theorem dX8_sign_76 : decode cX8_sign 76 = .ok (.if_icmp .ne 8, 3) := by decide +kernel
theorem dX8_sign_79 : decode cX8_sign 79 = .ok (.bipush 25, 2) := by decide +kernel
theorem dX8_sign_81 : decode cX8_sign 81 = .ok (.goto 34, 3) := by decide +kernel
theorem dX8_sign_84 : decode cX8_sign 84 = .ok (.aload_n 0, 1) := by decide +kernel
theorem dX8_sign_85 : decode cX8_sign 85 = .ok (.ldc2_w 266, 3) := by decide +kernel
theorem dX8_sign_88 : decode cX8_sign 88 = .ok (.invokevirtual 203, 3) := by decide +kernel
theorem dX8_sign_91 : decode cX8_sign 91 = .ok (.ifCond .eq 8, 3) := by decide +kernel
theorem dX8_sign_94 : decode cX8_sign 94 = .ok (.bipush 21, 2) := by decide +kernel
theorem dX8_sign_96 : decode cX8_sign 96 = .ok (.goto 19, 3) := by decide +kernel
theorem dX8_sign_99 : decode cX8_sign 99 = .ok (.aload_n 0, 1) := by decide +kernel
theorem dX8_sign_100 : decode cX8_sign 100 = .ok (.ldc2_w 268, 3) := by decide +kernel
theorem dX8_sign_103 : decode cX8_sign 103 = .ok (.invokevirtual 203, 3) := by decide +kernel
theorem dX8_sign_106 : decode cX8_sign 106 = .ok (.ifCond .eq 8, 3) := by decide +kernel
theorem dX8_sign_109 : decode cX8_sign 109 = .ok (.bipush 20, 2) := by decide +kernel
theorem dX8_sign_111 : decode cX8_sign 111 = .ok (.goto 4, 3) := by decide +kernel
theorem dX8_sign_114 : decode cX8_sign 114 = .ok (.iconst (-1), 1) := by decide +kernel
theorem dX8_sign_115 : decode cX8_sign 115 = .ok (.istore_n 1, 1) := by decide +kernel
theorem dX8_sign_116 : decode cX8_sign 116 = .ok (.aload_n 0, 1) := by decide +kernel
theorem dX8_sign_117 : decode cX8_sign 117 = .ok (.getfield 187, 3) := by decide +kernel
theorem dX8_sign_120 : decode cX8_sign 120 = .ok (.bipush 41, 2) := by decide +kernel
theorem dX8_sign_122 : decode cX8_sign 122 = .ok (.if_icmp .ne 41, 3) := by decide +kernel
theorem dX8_sign_125 : decode cX8_sign 125 = .ok (.aload_n 0, 1) := by decide +kernel
theorem dX8_sign_126 : decode cX8_sign 126 = .ok (.invokevirtual 270, 3) := by decide +kernel
theorem dX8_sign_129 : decode cX8_sign 129 = .ok (.ifCond .eq 34, 3) := by decide +kernel
theorem dX8_sign_132 : decode cX8_sign 132 = .ok (.aload_n 0, 1) := by decide +kernel
theorem dX8_sign_133 : decode cX8_sign 133 = .ok (.iconst 0, 1) := by decide +kernel
theorem dX8_sign_134 : decode cX8_sign 134 = .ok (.invokevirtual 274, 3) := by decide +kernel
theorem dX8_sign_137 : decode cX8_sign 137 = .ok (.aload_n 0, 1) := by decide +kernel
theorem dX8_sign_138 : decode cX8_sign 138 = .ok (.dup, 1) := by decide +kernel
theorem dX8_sign_139 : decode cX8_sign 139 = .ok (.getfield 224, 3) := by decide +kernel
theorem dX8_sign_142 : decode cX8_sign 142 = .ok (.iconst 1, 1) := by decide +kernel
theorem dX8_sign_143 : decode cX8_sign 143 = .ok (.isub, 1) := by decide +kernel
theorem dX8_sign_144 : decode cX8_sign 144 = .ok (.putfield 224, 3) := by decide +kernel
theorem dX8_sign_147 : decode cX8_sign 147 = .ok (.aload_n 0, 1) := by decide +kernel
theorem dX8_sign_148 : decode cX8_sign 148 = .ok (.dup, 1) := by decide +kernel
theorem dX8_sign_149 : decode cX8_sign 149 = .ok (.getfield 227, 3) := by decide +kernel
theorem dX8_sign_152 : decode cX8_sign 152 = .ok (.iconst 1, 1) := by decide +kernel
theorem dX8_sign_153 : decode cX8_sign 153 = .ok (.isub, 1) := by decide +kernel
theorem dX8_sign_154 : decode cX8_sign 154 = .ok (.putfield 227, 3) := by decide +kernel
theorem dX8_sign_157 : decode cX8_sign 157 = .ok (.aload_n 0, 1) := by decide +kernel
theorem dX8_sign_158 : decode cX8_sign 158 = .ok (.invokevirtual 210, 3) := by decide +kernel
theorem dX8_sign_161 : decode cX8_sign 161 = .ok (.iconst 2, 1) := by decide +kernel
theorem dX8_sign_162 : decode cX8_sign 162 = .ok (.ireturn, 1) := by decide +kernel
theorem dX8_sign_163 : decode cX8_sign 163 = .ok (.iload_n 1, 1) := by decide +kernel
theorem dX8_sign_164 : decode cX8_sign 164 = .ok (.ifCond .ge 10, 3) := by decide +kernel
theorem dX8_sign_167 : decode cX8_sign 167 = .ok (.aload_n 0, 1) := by decide +kernel
theorem dX8_sign_168 : decode cX8_sign 168 = .ok (.iconst 2, 1) := by decide +kernel
theorem dX8_sign_169 : decode cX8_sign 169 = .ok (.invokevirtual 207, 3) := by decide +kernel
theorem dX8_sign_172 : decode cX8_sign 172 = .ok (.iconst 2, 1) := by decide +kernel
theorem dX8_sign_173 : decode cX8_sign 173 = .ok (.ireturn, 1) := by decide +kernel
theorem dX8_sign_174 : decode cX8_sign 174 = .ok (.iload_n 1, 1) := by decide +kernel
theorem dX8_sign_175 : decode cX8_sign 175 = .ok (.invokestatic 277, 3) := by decide +kernel
theorem dX8_sign_178 : decode cX8_sign 178 = .ok (.bipush 23, 2) := by decide +kernel
theorem dX8_sign_180 : decode cX8_sign 180 = .ok (.if_icmp .ne 29, 3) := by decide +kernel
theorem dX8_sign_183 : decode cX8_sign 183 = .ok (.aload_n 0, 1) := by decide +kernel
theorem dX8_sign_184 : decode cX8_sign 184 = .ok (.bipush 26, 2) := by decide +kernel
theorem dX8_sign_186 : decode cX8_sign 186 = .ok (.invokevirtual 274, 3) := by decide +kernel
theorem dX8_sign_189 : decode cX8_sign 189 = .ok (.aload_n 0, 1) := by decide +kernel
theorem dX8_sign_190 : decode cX8_sign 190 = .ok (.invokevirtual 234, 3) := by decide +kernel
theorem dX8_sign_193 : decode cX8_sign 193 = .ok (.invokestatic 277, 3) := by decide +kernel
theorem dX8_sign_196 : decode cX8_sign 196 = .ok (.bipush 23, 2) := by decide +kernel
theorem dX8_sign_198 : decode cX8_sign 198 = .ok (.if_icmp .ne 19, 3) := by decide +kernel
theorem dX8_sign_201 : decode cX8_sign 201 = .ok (.aload_n 0, 1) := by decide +kernel
theorem dX8_sign_202 : decode cX8_sign 202 = .ok (.iconst 2, 1) := by decide +kernel
theorem dX8_sign_203 : decode cX8_sign 203 = .ok (.invokevirtual 207, 3) := by decide +kernel
theorem dX8_sign_206 : decode cX8_sign 206 = .ok (.goto 11, 3) := by decide +kernel
theorem dX8_sign_209 : decode cX8_sign 209 = .ok (.aload_n 0, 1) := by decide +kernel
theorem dX8_sign_210 : decode cX8_sign 210 = .ok (.iload_n 1, 1) := by decide +kernel
theorem dX8_sign_211 : decode cX8_sign 211 = .ok (.invokestatic 277, 3) := by decide +kernel
theorem dX8_sign_214 : decode cX8_sign 214 = .ok (.invokevirtual 274, 3) := by decide +kernel
theorem dX8_sign_217 : decode cX8_sign 217 = .ok (.aload_n 0, 1) := by decide +kernel
theorem dX8_sign_218 : decode cX8_sign 218 = .ok (.getfield 200, 3) := by decide +kernel
theorem dX8_sign_221 : decode cX8_sign 221 = .ok (.ifCond .le 5, 3) := by decide +kernel
theorem dX8_sign_224 : decode cX8_sign 224 = .ok (.iconst 2, 1) := by decide +kernel
theorem dX8_sign_225 : decode cX8_sign 225 = .ok (.ireturn, 1) := by decide +kernel
theorem dX8_sign_226 : decode cX8_sign 226 = .ok (.aload_n 0, 1) := by decide +kernel
theorem dX8_sign_227 : decode cX8_sign 227 = .ok (.iload_n 1, 1) := by decide +kernel
theorem dX8_sign_228 : decode cX8_sign 228 = .ok (.invokevirtual 263, 3) := by decide +kernel
theorem dX8_sign_231 : decode cX8_sign 231 = .ok (.aload_n 0, 1) := by decide +kernel
theorem dX8_sign_232 : decode cX8_sign 232 = .ok (.invokevirtual 210, 3) := by decide +kernel
theorem dX8_sign_235 : decode cX8_sign 235 = .ok (.iload_n 1, 1) := by decide +kernel
theorem dX8_sign_236 : decode cX8_sign 236 = .ok (.bipush 21, 2) := by decide +kernel
theorem dX8_sign_238 : decode cX8_sign 238 = .ok (.if_icmp .eq 9, 3) := by decide +kernel
theorem dX8_sign_241 : decode cX8_sign 241 = .ok (.iload_n 1, 1) := by decide +kernel
theorem dX8_sign_242 : decode cX8_sign 242 = .ok (.bipush 20, 2) := by decide +kernel
theorem dX8_sign_244 : decode cX8_sign 244 = .ok (.if_icmp .ne 7, 3) := by decide +kernel
theorem dX8_sign_247 : decode cX8_sign 247 = .ok (.iconst 0, 1) := by decide +kernel
theorem dX8_sign_248 : decode cX8_sign 248 = .ok (.goto 4, 3) := by decide +kernel
theorem dX8_sign_251 : decode cX8_sign 251 = .ok (.iconst 1, 1) := by decide +kernel
theorem dX8_sign_252 : decode cX8_sign 252 = .ok (.ireturn, 1) := by decide +kernel
theorem dX8_readLaw_0 : decode cX8_readLaw 0 = .ok (.aload_n 0, 1) := by decide +kernel
theorem dX8_readLaw_1 : decode cX8_readLaw 1 = .ok (.invokevirtual 210, 3) := by decide +kernel
theorem dX8_readLaw_4 : decode cX8_readLaw 4 = .ok (.aload_n 0, 1) := by decide +kernel
theorem dX8_readLaw_5 : decode cX8_readLaw 5 = .ok (.iconst 1, 1) := by decide +kernel
theorem dX8_readLaw_6 : decode cX8_readLaw 6 = .ok (.putfield 280, 3) := by decide +kernel
theorem dX8_readLaw_9 : decode cX8_readLaw 9 = .ok (.aload_n 0, 1) := by decide +kernel
theorem dX8_readLaw_10 : decode cX8_readLaw 10 = .ok (.aload_n 0, 1) := by decide +kernel
theorem dX8_readLaw_11 : decode cX8_readLaw 11 = .ok (.ldc2_w 284, 3) := by decide +kernel
theorem dX8_readLaw_14 : decode cX8_readLaw 14 = .ok (.iconst 1, 1) := by decide +kernel
theorem dX8_readLaw_15 : decode cX8_readLaw 15 = .ok (.bipush 9, 2) := by decide +kernel
theorem dX8_readLaw_17 : decode cX8_readLaw 17 = .ok (.invokevirtual 286, 3) := by decide +kernel
theorem dX8_readLaw_20 : decode cX8_readLaw 20 = .ok (.putfield 290, 3) := by decide +kernel
theorem dX8_readLaw_23 : decode cX8_readLaw 23 = .ok (.aload_n 0, 1) := by decide +kernel
theorem dX8_readLaw_24 : decode cX8_readLaw 24 = .ok (.aload_n 0, 1) := by decide +kernel
theorem dX8_readLaw_25 : decode cX8_readLaw 25 = .ok (.ldc2_w 293, 3) := by decide +kernel
theorem dX8_readLaw_28 : decode cX8_readLaw 28 = .ok (.iconst 0, 1) := by decide +kernel
theorem dX8_readLaw_29 : decode cX8_readLaw 29 = .ok (.bipush 20, 2) := by decide +kernel
theorem dX8_readLaw_31 : decode cX8_readLaw 31 = .ok (.invokevirtual 286, 3) := by decide +kernel
theorem dX8_readLaw_34 : decode cX8_readLaw 34 = .ok (.putfield 295, 3) := by decide +kernel
theorem dX8_readLaw_37 : decode cX8_readLaw 37 = .ok (.aload_n 0, 1) := by decide +kernel
theorem dX8_readLaw_38 : decode cX8_readLaw 38 = .ok (.aload_n 0, 1) := by decide +kernel
theorem dX8_readLaw_39 : decode cX8_readLaw 39 = .ok (.ldc2_w 298, 3) := by decide +kernel
theorem dX8_readLaw_42 : decode cX8_readLaw 42 = .ok (.iconst 1, 1) := by decide +kernel
theorem dX8_readLaw_43 : decode cX8_readLaw 43 = .ok (.bipush 9, 2) := by decide +kernel
theorem dX8_readLaw_45 : decode cX8_readLaw 45 = .ok (.invokevirtual 286, 3) := by decide +kernel
theorem dX8_readLaw_48 : decode cX8_readLaw 48 = .ok (.putfield 300, 3) := by decide +kernel
theorem dX8_readLaw_51 : decode cX8_readLaw 51 = .ok (.aload_n 0, 1) := by decide +kernel
theorem dX8_readLaw_52 : decode cX8_readLaw 52 = .ok (.aload_n 0, 1) := by decide +kernel
theorem dX8_readLaw_53 : decode cX8_readLaw 53 = .ok (.ldc2_w 303, 3) := by decide +kernel
theorem dX8_readLaw_56 : decode cX8_readLaw 56 = .ok (.iconst 0, 1) := by decide +kernel
theorem dX8_readLaw_57 : decode cX8_readLaw 57 = .ok (.bipush 9, 2) := by decide +kernel
theorem dX8_readLaw_59 : decode cX8_readLaw 59 = .ok (.invokevirtual 286, 3) := by decide +kernel
theorem dX8_readLaw_62 : decode cX8_readLaw 62 = .ok (.putfield 305, 3) := by decide +kernel
theorem dX8_readLaw_65 : decode cX8_readLaw 65 = .ok (.aload_n 0, 1) := by decide +kernel
theorem dX8_readLaw_66 : decode cX8_readLaw 66 = .ok (.ldc2_w 308, 3) := by decide +kernel
theorem dX8_readLaw_69 : decode cX8_readLaw 69 = .ok (.invokevirtual 213, 3) := by decide +kernel
theorem dX8_readLaw_72 : decode cX8_readLaw 72 = .ok (.aload_n 0, 1) := by decide +kernel
theorem dX8_readLaw_73 : decode cX8_readLaw 73 = .ok (.iconst 0, 1) := by decide +kernel
theorem dX8_readLaw_74 : decode cX8_readLaw 74 = .ok (.putfield 221, 3) := by decide +kernel
theorem dX8_readLaw_77 : decode cX8_readLaw 77 = .ok (.aload_n 0, 1) := by decide +kernel
theorem dX8_readLaw_78 : decode cX8_readLaw 78 = .ok (.iconst 0, 1) := by decide +kernel
theorem dX8_readLaw_79 : decode cX8_readLaw 79 = .ok (.putfield 224, 3) := by decide +kernel
theorem dX8_readLaw_82 : decode cX8_readLaw 82 = .ok (.aload_n 0, 1) := by decide +kernel
theorem dX8_readLaw_83 : decode cX8_readLaw 83 = .ok (.iconst 0, 1) := by decide +kernel
theorem dX8_readLaw_84 : decode cX8_readLaw 84 = .ok (.putfield 227, 3) := by decide +kernel
theorem dX8_readLaw_87 : decode cX8_readLaw 87 = .ok (.iconst 0, 1) := by decide +kernel
theorem dX8_readLaw_88 : decode cX8_readLaw 88 = .ok (.istore_n 1, 1) := by decide +kernel
theorem dX8_readLaw_89 : decode cX8_readLaw 89 = .ok (.aload_n 0, 1) := by decide +kernel
theorem dX8_readLaw_90 : decode cX8_readLaw 90 = .ok (.getfield 200, 3) := by decide +kernel
theorem dX8_readLaw_93 : decode cX8_readLaw 93 = .ok (.ifCond .ne 45, 3) := by decide +kernel
theorem dX8_readLaw_96 : decode cX8_readLaw 96 = .ok (.iload_n 1, 1) := by decide +kernel
theorem dX8_readLaw_97 : decode cX8_readLaw 97 = .ok (.iconst 2, 1) := by decide +kernel
theorem dX8_readLaw_98 : decode cX8_readLaw 98 = .ok (.if_icmp .ne 19, 3) := by decide +kernel
theorem dX8_readLaw_101 : decode cX8_readLaw 101 = .ok (.aload_n 0, 1) := by decide +kernel
theorem dX8_readLaw_102 : decode cX8_readLaw 102 = .ok (.getfield 187, 3) := by decide +kernel
theorem dX8_readLaw_105 : decode cX8_readLaw 105 = .ok (.bipush 59, 2) := by decide +kernel
theorem dX8_readLaw_107 : decode cX8_readLaw 107 = .ok (.if_icmp .ne 10, 3) := by decide +kernel
theorem dX8_readLaw_110 : decode cX8_readLaw 110 = .ok (.aload_n 0, 1) := by decide +kernel
theorem dX8_readLaw_111 : decode cX8_readLaw 111 = .ok (.invokevirtual 270, 3) := by decide +kernel
theorem dX8_readLaw_114 : decode cX8_readLaw 114 = .ok (.ifCond .eq 24, 3) := by decide +kernel
theorem dX8_readLaw_117 : decode cX8_readLaw 117 = .ok (.iload_n 1, 1) := by decide +kernel
theorem dX8_readLaw_118 : decode cX8_readLaw 118 = .ok (.iconst 2, 1) := by decide +kernel
theorem dX8_readLaw_119 : decode cX8_readLaw 119 = .ok (.if_icmp .ne 10, 3) := by decide +kernel
theorem dX8_readLaw_122 : decode cX8_readLaw 122 = .ok (.aload_n 0, 1) := by decide +kernel
theorem dX8_readLaw_123 : decode cX8_readLaw 123 = .ok (.invokevirtual 310, 3) := by decide +kernel
theorem dX8_readLaw_126 : decode cX8_readLaw 126 = .ok (.goto 8, 3) := by decide +kernel
theorem dX8_readLaw_129 : decode cX8_readLaw 129 = .ok (.aload_n 0, 1) := by decide +kernel
theorem dX8_readLaw_130 : decode cX8_readLaw 130 = .ok (.iload_n 1, 1) := by decide +kernel
theorem dX8_readLaw_131 : decode cX8_readLaw 131 = .ok (.invokevirtual 313, 3) := by decide +kernel
theorem dX8_readLaw_134 : decode cX8_readLaw 134 = .ok (.istore_n 1, 1) := by decide +kernel
theorem dX8_readLaw_135 : decode cX8_readLaw 135 = .ok (.goto (-46), 3) := by decide +kernel
theorem dX8_readLaw_138 : decode cX8_readLaw 138 = .ok (.aload_n 0, 1) := by decide +kernel
theorem dX8_readLaw_139 : decode cX8_readLaw 139 = .ok (.getfield 200, 3) := by decide +kernel
theorem dX8_readLaw_142 : decode cX8_readLaw 142 = .ok (.ifCond .ne 8, 3) := by decide +kernel
theorem dX8_readLaw_145 : decode cX8_readLaw 145 = .ok (.aload_n 0, 1) := by decide +kernel
theorem dX8_readLaw_146 : decode cX8_readLaw 146 = .ok (.iconst 0, 1) := by decide +kernel
theorem dX8_readLaw_147 : decode cX8_readLaw 147 = .ok (.invokevirtual 274, 3) := by decide +kernel
theorem dX8_readLaw_150 : decode cX8_readLaw 150 = .ok (.return_, 1) := by decide +kernel
theorem dX8_readSeats_0 : decode cX8_readSeats 0 = .ok (.aload_n 0, 1) := by decide +kernel
theorem dX8_readSeats_1 : decode cX8_readSeats 1 = .ok (.invokevirtual 210, 3) := by decide +kernel
theorem dX8_readSeats_4 : decode cX8_readSeats 4 = .ok (.aload_n 0, 1) := by decide +kernel
theorem dX8_readSeats_5 : decode cX8_readSeats 5 = .ok (.aload_n 0, 1) := by decide +kernel
theorem dX8_readSeats_6 : decode cX8_readSeats 6 = .ok (.bipush 6, 2) := by decide +kernel
theorem dX8_readSeats_8 : decode cX8_readSeats 8 = .ok (.bipush 40, 2) := by decide +kernel
theorem dX8_readSeats_10 : decode cX8_readSeats 10 = .ok (.invokevirtual 217, 3) := by decide +kernel
theorem dX8_readSeats_13 : decode cX8_readSeats 13 = .ok (.putfield 316, 3) := by decide +kernel
theorem dX8_readSeats_16 : decode cX8_readSeats 16 = .ok (.aload_n 0, 1) := by decide +kernel
theorem dX8_readSeats_17 : decode cX8_readSeats 17 = .ok (.iconst 1, 1) := by decide +kernel
theorem dX8_readSeats_18 : decode cX8_readSeats 18 = .ok (.putfield 319, 3) := by decide +kernel
theorem dX8_readSeats_21 : decode cX8_readSeats 21 = .ok (.return_, 1) := by decide +kernel
theorem dX8_readSlack_0 : decode cX8_readSlack 0 = .ok (.aload_n 0, 1) := by decide +kernel
theorem dX8_readSlack_1 : decode cX8_readSlack 1 = .ok (.invokevirtual 210, 3) := by decide +kernel
theorem dX8_readSlack_4 : decode cX8_readSlack 4 = .ok (.aload_n 0, 1) := by decide +kernel
theorem dX8_readSlack_5 : decode cX8_readSlack 5 = .ok (.getfield 36, 3) := by decide +kernel
theorem dX8_readSlack_8 : decode cX8_readSlack 8 = .ok (.aload_n 0, 1) := by decide +kernel
theorem dX8_readSlack_9 : decode cX8_readSlack 9 = .ok (.getfield 322, 3) := by decide +kernel
theorem dX8_readSlack_12 : decode cX8_readSlack 12 = .ok (.aload_n 0, 1) := by decide +kernel
theorem dX8_readSlack_13 : decode cX8_readSlack 13 = .ok (.iconst 0, 1) := by decide +kernel
theorem dX8_readSlack_14 : decode cX8_readSlack 14 = .ok (.sipush 999, 3) := by decide +kernel
theorem dX8_readSlack_17 : decode cX8_readSlack 17 = .ok (.invokevirtual 217, 3) := by decide +kernel
theorem dX8_readSlack_20 : decode cX8_readSlack 20 = .ok (.iastore, 1) := by decide +kernel
theorem dX8_readSlack_21 : decode cX8_readSlack 21 = .ok (.aload_n 0, 1) := by decide +kernel
theorem dX8_readSlack_22 : decode cX8_readSlack 22 = .ok (.getfield 39, 3) := by decide +kernel
theorem dX8_readSlack_25 : decode cX8_readSlack 25 = .ok (.aload_n 0, 1) := by decide +kernel
theorem dX8_readSlack_26 : decode cX8_readSlack 26 = .ok (.getfield 322, 3) := by decide +kernel
theorem dX8_readSlack_29 : decode cX8_readSlack 29 = .ok (.aload_n 0, 1) := by decide +kernel
theorem dX8_readSlack_30 : decode cX8_readSlack 30 = .ok (.ldc2_w 325, 3) := by decide +kernel
theorem dX8_readSlack_33 : decode cX8_readSlack 33 = .ok (.aload_n 0, 1) := by decide +kernel
theorem dX8_readSlack_34 : decode cX8_readSlack 34 = .ok (.getfield 36, 3) := by decide +kernel
theorem dX8_readSlack_37 : decode cX8_readSlack 37 = .ok (.aload_n 0, 1) := by decide +kernel
theorem dX8_readSlack_38 : decode cX8_readSlack 38 = .ok (.getfield 322, 3) := by decide +kernel
theorem dX8_readSlack_41 : decode cX8_readSlack 41 = .ok (.iaload, 1) := by decide +kernel
theorem dX8_readSlack_42 : decode cX8_readSlack 42 = .ok (.sipush 999, 3) := by decide +kernel
theorem dX8_readSlack_45 : decode cX8_readSlack 45 = .ok (.invokevirtual 286, 3) := by decide +kernel
theorem dX8_readSlack_48 : decode cX8_readSlack 48 = .ok (.iastore, 1) := by decide +kernel
theorem dX8_readSlack_49 : decode cX8_readSlack 49 = .ok (.aload_n 0, 1) := by decide +kernel
theorem dX8_readSlack_50 : decode cX8_readSlack 50 = .ok (.getfield 42, 3) := by decide +kernel
theorem dX8_readSlack_53 : decode cX8_readSlack 53 = .ok (.aload_n 0, 1) := by decide +kernel
theorem dX8_readSlack_54 : decode cX8_readSlack 54 = .ok (.getfield 322, 3) := by decide +kernel
theorem dX8_readSlack_57 : decode cX8_readSlack 57 = .ok (.aload_n 0, 1) := by decide +kernel
theorem dX8_readSlack_58 : decode cX8_readSlack 58 = .ok (.ldc2_w 327, 3) := by decide +kernel
theorem dX8_readSlack_61 : decode cX8_readSlack 61 = .ok (.iconst 0, 1) := by decide +kernel
theorem dX8_readSlack_62 : decode cX8_readSlack 62 = .ok (.bipush 9, 2) := by decide +kernel
theorem dX8_readSlack_64 : decode cX8_readSlack 64 = .ok (.invokevirtual 286, 3) := by decide +kernel
theorem dX8_readSlack_67 : decode cX8_readSlack 67 = .ok (.iastore, 1) := by decide +kernel
theorem dX8_readSlack_68 : decode cX8_readSlack 68 = .ok (.aload_n 0, 1) := by decide +kernel
theorem dX8_readSlack_69 : decode cX8_readSlack 69 = .ok (.dup, 1) := by decide +kernel
theorem dX8_readSlack_70 : decode cX8_readSlack 70 = .ok (.getfield 322, 3) := by decide +kernel
theorem dX8_readSlack_73 : decode cX8_readSlack 73 = .ok (.iconst 1, 1) := by decide +kernel
theorem dX8_readSlack_74 : decode cX8_readSlack 74 = .ok (.iadd, 1) := by decide +kernel
theorem dX8_readSlack_75 : decode cX8_readSlack 75 = .ok (.putfield 322, 3) := by decide +kernel
theorem dX8_readSlack_78 : decode cX8_readSlack 78 = .ok (.return_, 1) := by decide +kernel
theorem dX8_readRow_0 : decode cX8_readRow 0 = .ok (.aload_n 0, 1) := by decide +kernel
theorem dX8_readRow_1 : decode cX8_readRow 1 = .ok (.ldc2_w 329, 3) := by decide +kernel
theorem dX8_readRow_4 : decode cX8_readRow 4 = .ok (.invokevirtual 203, 3) := by decide +kernel
theorem dX8_readRow_7 : decode cX8_readRow 7 = .ok (.ifCond .eq 7, 3) := by decide +kernel
theorem dX8_readRow_10 : decode cX8_readRow 10 = .ok (.iconst 0, 1) := by decide +kernel
theorem dX8_readRow_11 : decode cX8_readRow 11 = .ok (.goto 18, 3) := by decide +kernel
theorem dX8_readRow_14 : decode cX8_readRow 14 = .ok (.aload_n 0, 1) := by decide +kernel
theorem dX8_readRow_15 : decode cX8_readRow 15 = .ok (.ldc2_w 331, 3) := by decide +kernel
theorem dX8_readRow_18 : decode cX8_readRow 18 = .ok (.invokevirtual 203, 3) := by decide +kernel
theorem dX8_readRow_21 : decode cX8_readRow 21 = .ok (.ifCond .eq 7, 3) := by decide +kernel
theorem dX8_readRow_24 : decode cX8_readRow 24 = .ok (.iconst 1, 1) := by decide +kernel
theorem dX8_readRow_25 : decode cX8_readRow 25 = .ok (.goto 4, 3) := by decide +kernel
theorem dX8_readRow_28 : decode cX8_readRow 28 = .ok (.iconst 2, 1) := by decide +kernel
theorem dX8_readRow_29 : decode cX8_readRow 29 = .ok (.istore_n 1, 1) := by decide +kernel
theorem dX8_readRow_30 : decode cX8_readRow 30 = .ok (.aload_n 0, 1) := by decide +kernel
theorem dX8_readRow_31 : decode cX8_readRow 31 = .ok (.iconst 1, 1) := by decide +kernel
theorem dX8_readRow_32 : decode cX8_readRow 32 = .ok (.putfield 333, 3) := by decide +kernel
theorem dX8_readRow_35 : decode cX8_readRow 35 = .ok (.aload_n 0, 1) := by decide +kernel
theorem dX8_readRow_36 : decode cX8_readRow 36 = .ok (.invokevirtual 210, 3) := by decide +kernel
theorem dX8_readRow_39 : decode cX8_readRow 39 = .ok (.aload_n 0, 1) := by decide +kernel
theorem dX8_readRow_40 : decode cX8_readRow 40 = .ok (.iconst 0, 1) := by decide +kernel
theorem dX8_readRow_41 : decode cX8_readRow 41 = .ok (.aload_n 0, 1) := by decide +kernel
theorem dX8_readRow_42 : decode cX8_readRow 42 = .ok (.getfield 316, 3) := by decide +kernel
theorem dX8_readRow_45 : decode cX8_readRow 45 = .ok (.iconst 1, 1) := by decide +kernel
theorem dX8_readRow_46 : decode cX8_readRow 46 = .ok (.isub, 1) := by decide +kernel
theorem dX8_readRow_47 : decode cX8_readRow 47 = .ok (.invokevirtual 217, 3) := by decide +kernel
theorem dX8_readRow_50 : decode cX8_readRow 50 = .ok (.istore_n 2, 1) := by decide +kernel
theorem dX8_readRow_51 : decode cX8_readRow 51 = .ok (.aload_n 0, 1) := by decide +kernel
theorem dX8_readRow_52 : decode cX8_readRow 52 = .ok (.ldc2_w 325, 3) := by decide +kernel
theorem dX8_readRow_55 : decode cX8_readRow 55 = .ok (.iload_n 2, 1) := by decide +kernel
theorem dX8_readRow_56 : decode cX8_readRow 56 = .ok (.aload_n 0, 1) := by decide +kernel
theorem dX8_readRow_57 : decode cX8_readRow 57 = .ok (.getfield 316, 3) := by decide +kernel
theorem dX8_readRow_60 : decode cX8_readRow 60 = .ok (.iconst 1, 1) := by decide +kernel
theorem dX8_readRow_61 : decode cX8_readRow 61 = .ok (.isub, 1) := by decide +kernel
theorem dX8_readRow_62 : decode cX8_readRow 62 = .ok (.invokevirtual 286, 3) := by decide +kernel
theorem dX8_readRow_65 : decode cX8_readRow 65 = .ok (.istore_n 3, 1) := by decide +kernel
theorem dX8_readRow_66 : decode cX8_readRow 66 = .ok (.iload_n 2, 1) := by decide +kernel
theorem dX8_readRow_67 : decode cX8_readRow 67 = .ok (.istore 4, 2) := by decide +kernel
theorem dX8_readRow_69 : decode cX8_readRow 69 = .ok (.iload 4, 2) := by decide +kernel
theorem dX8_readRow_71 : decode cX8_readRow 71 = .ok (.iload_n 3, 1) := by decide +kernel
theorem dX8_readRow_72 : decode cX8_readRow 72 = .ok (.if_icmp .gt 54, 3) := by decide +kernel
theorem dX8_readRow_75 : decode cX8_readRow 75 = .ok (.aload_n 0, 1) := by decide +kernel
theorem dX8_readRow_76 : decode cX8_readRow 76 = .ok (.getfield 200, 3) := by decide +kernel
theorem dX8_readRow_79 : decode cX8_readRow 79 = .ok (.ifCond .ne 47, 3) := by decide +kernel
theorem dX8_readRow_82 : decode cX8_readRow 82 = .ok (.iload_n 1, 1) := by decide +kernel
theorem dX8_readRow_83 : decode cX8_readRow 83 = .ok (.ifCond .ne 11, 3) := by decide +kernel
theorem dX8_readRow_86 : decode cX8_readRow 86 = .ok (.aload_n 0, 1) := by decide +kernel
theorem dX8_readRow_87 : decode cX8_readRow 87 = .ok (.getfield 17, 3) := by decide +kernel
theorem dX8_readRow_90 : decode cX8_readRow 90 = .ok (.iload 4, 2) := by decide +kernel
theorem dX8_readRow_92 : decode cX8_readRow 92 = .ok (.iconst 1, 1) := by decide +kernel
theorem dX8_readRow_93 : decode cX8_readRow 93 = .ok (.bastore, 1) := by decide +kernel
theorem dX8_readRow_94 : decode cX8_readRow 94 = .ok (.iload_n 1, 1) := by decide +kernel
theorem dX8_readRow_95 : decode cX8_readRow 95 = .ok (.iconst 1, 1) := by decide +kernel
theorem dX8_readRow_96 : decode cX8_readRow 96 = .ok (.if_icmp .ne 11, 3) := by decide +kernel
theorem dX8_readRow_99 : decode cX8_readRow 99 = .ok (.aload_n 0, 1) := by decide +kernel
theorem dX8_readRow_100 : decode cX8_readRow 100 = .ok (.getfield 21, 3) := by decide +kernel
theorem dX8_readRow_103 : decode cX8_readRow 103 = .ok (.iload 4, 2) := by decide +kernel
theorem dX8_readRow_105 : decode cX8_readRow 105 = .ok (.iconst 1, 1) := by decide +kernel
theorem dX8_readRow_106 : decode cX8_readRow 106 = .ok (.bastore, 1) := by decide +kernel
theorem dX8_readRow_107 : decode cX8_readRow 107 = .ok (.iload_n 1, 1) := by decide +kernel
theorem dX8_readRow_108 : decode cX8_readRow 108 = .ok (.iconst 2, 1) := by decide +kernel
theorem dX8_readRow_109 : decode cX8_readRow 109 = .ok (.if_icmp .ne 11, 3) := by decide +kernel
theorem dX8_readRow_112 : decode cX8_readRow 112 = .ok (.aload_n 0, 1) := by decide +kernel
theorem dX8_readRow_113 : decode cX8_readRow 113 = .ok (.getfield 24, 3) := by decide +kernel
theorem dX8_readRow_116 : decode cX8_readRow 116 = .ok (.iload 4, 2) := by decide +kernel
theorem dX8_readRow_118 : decode cX8_readRow 118 = .ok (.iconst 1, 1) := by decide +kernel
theorem dX8_readRow_119 : decode cX8_readRow 119 = .ok (.bastore, 1) := by decide +kernel
theorem dX8_readRow_120 : decode cX8_readRow 120 = .ok (.iinc 4 1, 3) := by decide +kernel
theorem dX8_readRow_123 : decode cX8_readRow 123 = .ok (.goto (-54), 3) := by decide +kernel
theorem dX8_readRow_126 : decode cX8_readRow 126 = .ok (.return_, 1) := by decide +kernel
theorem dX8_readLine_0 : decode cX8_readLine 0 = .ok (.aload_n 0, 1) := by decide +kernel
theorem dX8_readLine_1 : decode cX8_readLine 1 = .ok (.ldc2_w 336, 3) := by decide +kernel
theorem dX8_readLine_4 : decode cX8_readLine 4 = .ok (.invokevirtual 203, 3) := by decide +kernel
theorem dX8_readLine_7 : decode cX8_readLine 7 = .ok (.ifCond .eq 24, 3) := by decide +kernel
theorem dX8_readLine_10 : decode cX8_readLine 10 = .ok (.aload_n 0, 1) := by decide +kernel
theorem dX8_readLine_11 : decode cX8_readLine 11 = .ok (.getfield 319, 3) := by decide +kernel
theorem dX8_readLine_14 : decode cX8_readLine 14 = .ok (.ifCond .ne 17, 3) := by decide +kernel
theorem dX8_readLine_17 : decode cX8_readLine 17 = .ok (.aload_n 0, 1) := by decide +kernel
theorem dX8_readLine_18 : decode cX8_readLine 18 = .ok (.getfield 333, 3) := by decide +kernel
theorem dX8_readLine_21 : decode cX8_readLine 21 = .ok (.ifCond .ne 10, 3) := by decide +kernel
theorem dX8_readLine_24 : decode cX8_readLine 24 = .ok (.aload_n 0, 1) := by decide +kernel
theorem dX8_readLine_25 : decode cX8_readLine 25 = .ok (.invokevirtual 338, 3) := by decide +kernel
theorem dX8_readLine_28 : decode cX8_readLine 28 = .ok (.goto 95, 3) := by decide +kernel
theorem dX8_readLine_31 : decode cX8_readLine 31 = .ok (.aload_n 0, 1) := by decide +kernel
theorem dX8_readLine_32 : decode cX8_readLine 32 = .ok (.ldc2_w 329, 3) := by decide +kernel
theorem dX8_readLine_35 : decode cX8_readLine 35 = .ok (.invokevirtual 203, 3) := by decide +kernel
theorem dX8_readLine_38 : decode cX8_readLine 38 = .ok (.ifCond .ne 23, 3) := by decide +kernel
theorem dX8_readLine_41 : decode cX8_readLine 41 = .ok (.aload_n 0, 1) := by decide +kernel
theorem dX8_readLine_42 : decode cX8_readLine 42 = .ok (.ldc2_w 331, 3) := by decide +kernel
theorem dX8_readLine_45 : decode cX8_readLine 45 = .ok (.invokevirtual 203, 3) := by decide +kernel
theorem dX8_readLine_48 : decode cX8_readLine 48 = .ok (.ifCond .ne 13, 3) := by decide +kernel
theorem dX8_readLine_51 : decode cX8_readLine 51 = .ok (.aload_n 0, 1) := by decide +kernel
theorem dX8_readLine_52 : decode cX8_readLine 52 = .ok (.ldc2_w 341, 3) := by decide +kernel
theorem dX8_readLine_55 : decode cX8_readLine 55 = .ok (.invokevirtual 203, 3) := by decide +kernel
theorem dX8_readLine_58 : decode cX8_readLine 58 = .ok (.ifCond .eq 10, 3) := by decide +kernel
theorem dX8_readLine_61 : decode cX8_readLine 61 = .ok (.aload_n 0, 1) := by decide +kernel
theorem dX8_readLine_62 : decode cX8_readLine 62 = .ok (.invokevirtual 343, 3) := by decide +kernel
theorem dX8_readLine_65 : decode cX8_readLine 65 = .ok (.goto 58, 3) := by decide +kernel
theorem dX8_readLine_68 : decode cX8_readLine 68 = .ok (.aload_n 0, 1) := by decide +kernel
theorem dX8_readLine_69 : decode cX8_readLine 69 = .ok (.ldc2_w 245, 3) := by decide +kernel
theorem dX8_readLine_72 : decode cX8_readLine 72 = .ok (.invokevirtual 203, 3) := by decide +kernel
theorem dX8_readLine_75 : decode cX8_readLine 75 = .ok (.ifCond .eq 19, 3) := by decide +kernel
theorem dX8_readLine_78 : decode cX8_readLine 78 = .ok (.aload_n 0, 1) := by decide +kernel
theorem dX8_readLine_79 : decode cX8_readLine 79 = .ok (.getfield 322, 3) := by decide +kernel
theorem dX8_readLine_82 : decode cX8_readLine 82 = .ok (.bipush 6, 2) := by decide +kernel
theorem dX8_readLine_84 : decode cX8_readLine 84 = .ok (.if_icmp .ge 10, 3) := by decide +kernel
theorem dX8_readLine_87 : decode cX8_readLine 87 = .ok (.aload_n 0, 1) := by decide +kernel
theorem dX8_readLine_88 : decode cX8_readLine 88 = .ok (.invokevirtual 346, 3) := by decide +kernel
theorem dX8_readLine_91 : decode cX8_readLine 91 = .ok (.goto 32, 3) := by decide +kernel
theorem dX8_readLine_94 : decode cX8_readLine 94 = .ok (.aload_n 0, 1) := by decide +kernel
theorem dX8_readLine_95 : decode cX8_readLine 95 = .ok (.ldc2_w 349, 3) := by decide +kernel
theorem dX8_readLine_98 : decode cX8_readLine 98 = .ok (.invokevirtual 203, 3) := by decide +kernel
theorem dX8_readLine_101 : decode cX8_readLine 101 = .ok (.ifCond .eq 17, 3) := by decide +kernel
theorem dX8_readLine_104 : decode cX8_readLine 104 = .ok (.aload_n 0, 1) := by decide +kernel
theorem dX8_readLine_105 : decode cX8_readLine 105 = .ok (.getfield 280, 3) := by decide +kernel
theorem dX8_readLine_108 : decode cX8_readLine 108 = .ok (.ifCond .ne 10, 3) := by decide +kernel
theorem dX8_readLine_111 : decode cX8_readLine 111 = .ok (.aload_n 0, 1) := by decide +kernel
theorem dX8_readLine_112 : decode cX8_readLine 112 = .ok (.invokevirtual 351, 3) := by decide +kernel
theorem dX8_readLine_115 : decode cX8_readLine 115 = .ok (.goto 8, 3) := by decide +kernel
theorem dX8_readLine_118 : decode cX8_readLine 118 = .ok (.aload_n 0, 1) := by decide +kernel
theorem dX8_readLine_119 : decode cX8_readLine 119 = .ok (.iconst 2, 1) := by decide +kernel
theorem dX8_readLine_120 : decode cX8_readLine 120 = .ok (.invokevirtual 207, 3) := by decide +kernel
theorem dX8_readLine_123 : decode cX8_readLine 123 = .ok (.aload_n 0, 1) := by decide +kernel
theorem dX8_readLine_124 : decode cX8_readLine 124 = .ok (.getfield 200, 3) := by decide +kernel
theorem dX8_readLine_127 : decode cX8_readLine 127 = .ok (.ifCond .ne 17, 3) := by decide +kernel
theorem dX8_readLine_130 : decode cX8_readLine 130 = .ok (.aload_n 0, 1) := by decide +kernel
theorem dX8_readLine_131 : decode cX8_readLine 131 = .ok (.getfield 187, 3) := by decide +kernel
theorem dX8_readLine_134 : decode cX8_readLine 134 = .ok (.bipush 59, 2) := by decide +kernel
theorem dX8_readLine_136 : decode cX8_readLine 136 = .ok (.if_icmp .eq 8, 3) := by decide +kernel
theorem dX8_readLine_139 : decode cX8_readLine 139 = .ok (.aload_n 0, 1) := by decide +kernel
theorem dX8_readLine_140 : decode cX8_readLine 140 = .ok (.iconst 2, 1) := by decide +kernel
theorem dX8_readLine_141 : decode cX8_readLine 141 = .ok (.invokevirtual 207, 3) := by decide +kernel
theorem dX8_readLine_144 : decode cX8_readLine 144 = .ok (.aload_n 0, 1) := by decide +kernel
theorem dX8_readLine_145 : decode cX8_readLine 145 = .ok (.getfield 200, 3) := by decide +kernel
theorem dX8_readLine_148 : decode cX8_readLine 148 = .ok (.ifCond .ne 7, 3) := by decide +kernel
theorem dX8_readLine_151 : decode cX8_readLine 151 = .ok (.aload_n 0, 1) := by decide +kernel
theorem dX8_readLine_152 : decode cX8_readLine 152 = .ok (.invokevirtual 210, 3) := by decide +kernel
theorem dX8_readLine_155 : decode cX8_readLine 155 = .ok (.return_, 1) := by decide +kernel
theorem dX8_plainLaw_0 : decode cX8_plainLaw 0 = .ok (.aload_n 0, 1) := by decide +kernel
theorem dX8_plainLaw_1 : decode cX8_plainLaw 1 = .ok (.iconst 2, 1) := by decide +kernel
theorem dX8_plainLaw_2 : decode cX8_plainLaw 2 = .ok (.putfield 354, 3) := by decide +kernel
theorem dX8_plainLaw_5 : decode cX8_plainLaw 5 = .ok (.aload_n 0, 1) := by decide +kernel
theorem dX8_plainLaw_6 : decode cX8_plainLaw 6 = .ok (.iconst 4, 1) := by decide +kernel
theorem dX8_plainLaw_7 : decode cX8_plainLaw 7 = .ok (.putfield 357, 3) := by decide +kernel
theorem dX8_plainLaw_10 : decode cX8_plainLaw 10 = .ok (.aload_n 0, 1) := by decide +kernel
theorem dX8_plainLaw_11 : decode cX8_plainLaw 11 = .ok (.iconst 2, 1) := by decide +kernel
theorem dX8_plainLaw_12 : decode cX8_plainLaw 12 = .ok (.putfield 360, 3) := by decide +kernel
theorem dX8_plainLaw_15 : decode cX8_plainLaw 15 = .ok (.aload_n 0, 1) := by decide +kernel
theorem dX8_plainLaw_16 : decode cX8_plainLaw 16 = .ok (.iconst 0, 1) := by decide +kernel
theorem dX8_plainLaw_17 : decode cX8_plainLaw 17 = .ok (.putfield 363, 3) := by decide +kernel
theorem dX8_plainLaw_20 : decode cX8_plainLaw 20 = .ok (.aload_n 0, 1) := by decide +kernel
theorem dX8_plainLaw_21 : decode cX8_plainLaw 21 = .ok (.iconst 2, 1) := by decide +kernel
theorem dX8_plainLaw_22 : decode cX8_plainLaw 22 = .ok (.putfield 366, 3) := by decide +kernel
theorem dX8_plainLaw_25 : decode cX8_plainLaw 25 = .ok (.aload_n 0, 1) := by decide +kernel
theorem dX8_plainLaw_26 : decode cX8_plainLaw 26 = .ok (.iconst 3, 1) := by decide +kernel
theorem dX8_plainLaw_27 : decode cX8_plainLaw 27 = .ok (.putfield 369, 3) := by decide +kernel
theorem dX8_plainLaw_30 : decode cX8_plainLaw 30 = .ok (.aload_n 0, 1) := by decide +kernel
theorem dX8_plainLaw_31 : decode cX8_plainLaw 31 = .ok (.getfield 60, 3) := by decide +kernel
theorem dX8_plainLaw_34 : decode cX8_plainLaw 34 = .ok (.iconst 0, 1) := by decide +kernel
theorem dX8_plainLaw_35 : decode cX8_plainLaw 35 = .ok (.iconst 1, 1) := by decide +kernel
theorem dX8_plainLaw_36 : decode cX8_plainLaw 36 = .ok (.iastore, 1) := by decide +kernel
theorem dX8_plainLaw_37 : decode cX8_plainLaw 37 = .ok (.aload_n 0, 1) := by decide +kernel
theorem dX8_plainLaw_38 : decode cX8_plainLaw 38 = .ok (.getfield 60, 3) := by decide +kernel
theorem dX8_plainLaw_41 : decode cX8_plainLaw 41 = .ok (.iconst 1, 1) := by decide +kernel
theorem dX8_plainLaw_42 : decode cX8_plainLaw 42 = .ok (.iconst 0, 1) := by decide +kernel
theorem dX8_plainLaw_43 : decode cX8_plainLaw 43 = .ok (.iastore, 1) := by decide +kernel
theorem dX8_plainLaw_44 : decode cX8_plainLaw 44 = .ok (.aload_n 0, 1) := by decide +kernel
theorem dX8_plainLaw_45 : decode cX8_plainLaw 45 = .ok (.getfield 63, 3) := by decide +kernel
theorem dX8_plainLaw_48 : decode cX8_plainLaw 48 = .ok (.iconst 1, 1) := by decide +kernel
theorem dX8_plainLaw_49 : decode cX8_plainLaw 49 = .ok (.iconst 0, 1) := by decide +kernel
theorem dX8_plainLaw_50 : decode cX8_plainLaw 50 = .ok (.iastore, 1) := by decide +kernel
theorem dX8_plainLaw_51 : decode cX8_plainLaw 51 = .ok (.aload_n 0, 1) := by decide +kernel
theorem dX8_plainLaw_52 : decode cX8_plainLaw 52 = .ok (.getfield 60, 3) := by decide +kernel
theorem dX8_plainLaw_55 : decode cX8_plainLaw 55 = .ok (.iconst 2, 1) := by decide +kernel
theorem dX8_plainLaw_56 : decode cX8_plainLaw 56 = .ok (.bipush 25, 2) := by decide +kernel
theorem dX8_plainLaw_58 : decode cX8_plainLaw 58 = .ok (.iastore, 1) := by decide +kernel
theorem dX8_plainLaw_59 : decode cX8_plainLaw 59 = .ok (.return_, 1) := by decide +kernel
theorem dX8_ring_0 : decode cX8_ring 0 = .ok (.aload_n 0, 1) := by decide +kernel
theorem dX8_ring_1 : decode cX8_ring 1 = .ok (.aload_n 0, 1) := by decide +kernel
theorem dX8_ring_2 : decode cX8_ring 2 = .ok (.getfield 160, 3) := by decide +kernel
theorem dX8_ring_5 : decode cX8_ring 5 = .ok (.putfield 170, 3) := by decide +kernel
theorem dX8_ring_8 : decode cX8_ring 8 = .ok (.aload_n 0, 1) := by decide +kernel
theorem dX8_ring_9 : decode cX8_ring 9 = .ok (.iconst 0, 1) := by decide +kernel
theorem dX8_ring_10 : decode cX8_ring 10 = .ok (.putfield 160, 3) := by decide +kernel
theorem dX8_ring_13 : decode cX8_ring 13 = .ok (.aload_n 0, 1) := by decide +kernel
theorem dX8_ring_14 : decode cX8_ring 14 = .ok (.iconst 0, 1) := by decide +kernel
theorem dX8_ring_15 : decode cX8_ring 15 = .ok (.putfield 167, 3) := by decide +kernel
theorem dX8_ring_18 : decode cX8_ring 18 = .ok (.aload_n 0, 1) := by decide +kernel
theorem dX8_ring_19 : decode cX8_ring 19 = .ok (.iconst 0, 1) := by decide +kernel
theorem dX8_ring_20 : decode cX8_ring 20 = .ok (.putfield 200, 3) := by decide +kernel
theorem dX8_ring_23 : decode cX8_ring 23 = .ok (.aload_n 0, 1) := by decide +kernel
theorem dX8_ring_24 : decode cX8_ring 24 = .ok (.iconst (-1), 1) := by decide +kernel
theorem dX8_ring_25 : decode cX8_ring 25 = .ok (.putfield 13, 3) := by decide +kernel
