theorem dX12_go_163 : decode cX12_go 163 = .ok (.bipush 40, 2) := by decide +kernel
theorem dX12_go_165 : decode cX12_go 165 = .ok (.if_icmp .eq 9, 3) := by decide +kernel
theorem dX12_go_168 : decode cX12_go 168 = .ok (.iload_n 1, 1) := by decide +kernel
theorem dX12_go_169 : decode cX12_go 169 = .ok (.bipush 41, 2) := by decide +kernel
theorem dX12_go_171 : decode cX12_go 171 = .ok (.if_icmp .ne 7, 3) := by decide +kernel
theorem dX12_go_174 : decode cX12_go 174 = .ok (.iconst 4, 1) := by decide +kernel
theorem dX12_go_175 : decode cX12_go 175 = .ok (.goto 4, 3) := by decide +kernel
theorem dX12_go_178 : decode cX12_go 178 = .ok (.iconst 1, 1) := by decide +kernel
theorem dX12_go_179 : decode cX12_go 179 = .ok (.putfield 113, 3) := by decide +kernel
theorem dX12_go_182 : decode cX12_go 182 = .ok (.aload_n 0, 1) := by decide +kernel
theorem dX12_go_183 : decode cX12_go 183 = .ok (.iload_n 1, 1) := by decide +kernel
theorem dX12_go_184 : decode cX12_go 184 = .ok (.putfield 123, 3) := by decide +kernel
theorem dX12_go_187 : decode cX12_go 187 = .ok (.aload_n 0, 1) := by decide +kernel
theorem dX12_go_188 : decode cX12_go 188 = .ok (.dup, 1) := by decide +kernel
theorem dX12_go_189 : decode cX12_go 189 = .ok (.getfield 104, 3) := by decide +kernel
theorem dX12_go_192 : decode cX12_go 192 = .ok (.iconst 1, 1) := by decide +kernel
theorem dX12_go_193 : decode cX12_go 193 = .ok (.iadd, 1) := by decide +kernel
theorem dX12_go_194 : decode cX12_go 194 = .ok (.putfield 104, 3) := by decide +kernel
theorem dX12_go_197 : decode cX12_go 197 = .ok (.return_, 1) := by decide +kernel
theorem dX12_go_198 : decode cX12_go 198 = .ok (.iload_n 1, 1) := by decide +kernel
theorem dX12_go_199 : decode cX12_go 199 = .ok (.invokestatic 116, 3) := by decide +kernel
theorem dX12_go_202 : decode cX12_go 202 = .ok (.istore_n 2, 1) := by decide +kernel
theorem dX12_go_203 : decode cX12_go 203 = .ok (.iconst 1, 1) := by decide +kernel
theorem dX12_go_204 : decode cX12_go 204 = .ok (.istore_n 3, 1) := by decide +kernel
theorem dX12_go_205 : decode cX12_go 205 = .ok (.aload_n 0, 1) := by decide +kernel
theorem dX12_go_206 : decode cX12_go 206 = .ok (.lconst 0, 1) := by decide +kernel
theorem dX12_go_207 : decode cX12_go 207 = .ok (.putfield 126, 3) := by decide +kernel
theorem dX12_go_210 : decode cX12_go 210 = .ok (.aload_n 0, 1) := by decide +kernel
theorem dX12_go_211 : decode cX12_go 211 = .ok (.iconst 0, 1) := by decide +kernel
theorem dX12_go_212 : decode cX12_go 212 = .ok (.putfield 130, 3) := by decide +kernel
theorem dX12_go_215 : decode cX12_go 215 = .ok (.aload_n 0, 1) := by decide +kernel
theorem dX12_go_216 : decode cX12_go 216 = .ok (.aload_n 0, 1) := by decide +kernel
theorem dX12_go_217 : decode cX12_go 217 = .ok (.getfield 104, 3) := by decide +kernel
theorem dX12_go_220 : decode cX12_go 220 = .ok (.invokevirtual 133, 3) := by decide +kernel
theorem dX12_go_223 : decode cX12_go 223 = .ok (.invokestatic 116, 3) := by decide +kernel
theorem dX12_go_226 : decode cX12_go 226 = .ok (.ifCond .ne 17, 3) := by decide +kernel
theorem dX12_go_229 : decode cX12_go 229 = .ok (.aload_n 0, 1) := by decide +kernel
theorem dX12_go_230 : decode cX12_go 230 = .ok (.aload_n 0, 1) := by decide +kernel
theorem dX12_go_231 : decode cX12_go 231 = .ok (.getfield 104, 3) := by decide +kernel
theorem dX12_go_234 : decode cX12_go 234 = .ok (.invokevirtual 133, 3) := by decide +kernel
theorem dX12_go_237 : decode cX12_go 237 = .ok (.invokestatic 120, 3) := by decide +kernel
theorem dX12_go_240 : decode cX12_go 240 = .ok (.ifCond .eq 110, 3) := by decide +kernel
theorem dX12_go_243 : decode cX12_go 243 = .ok (.aload_n 0, 1) := by decide +kernel
theorem dX12_go_244 : decode cX12_go 244 = .ok (.getfield 7, 3) := by decide +kernel
theorem dX12_go_247 : decode cX12_go 247 = .ok (.aload_n 0, 1) := by decide +kernel
theorem dX12_go_248 : decode cX12_go 248 = .ok (.getfield 104, 3) := by decide +kernel
theorem dX12_go_251 : decode cX12_go 251 = .ok (.iaload, 1) := by decide +kernel
theorem dX12_go_252 : decode cX12_go 252 = .ok (.istore 4, 2) := by decide +kernel
theorem dX12_go_254 : decode cX12_go 254 = .ok (.iload_n 3, 1) := by decide +kernel
theorem dX12_go_255 : decode cX12_go 255 = .ok (.ifCond .eq 16, 3) := by decide +kernel
theorem dX12_go_258 : decode cX12_go 258 = .ok (.iload 4, 2) := by decide +kernel
theorem dX12_go_260 : decode cX12_go 260 = .ok (.invokestatic 116, 3) := by decide +kernel
theorem dX12_go_263 : decode cX12_go 263 = .ok (.iload_n 2, 1) := by decide +kernel
theorem dX12_go_264 : decode cX12_go 264 = .ok (.if_icmp .ne 7, 3) := by decide +kernel
theorem dX12_go_267 : decode cX12_go 267 = .ok (.iconst 1, 1) := by decide +kernel
theorem dX12_go_268 : decode cX12_go 268 = .ok (.goto 4, 3) := by decide +kernel
theorem dX12_go_271 : decode cX12_go 271 = .ok (.iconst 0, 1) := by decide +kernel
theorem dX12_go_272 : decode cX12_go 272 = .ok (.istore_n 3, 1) := by decide +kernel
theorem dX12_go_273 : decode cX12_go 273 = .ok (.aload_n 0, 1) := by decide +kernel
theorem dX12_go_274 : decode cX12_go 274 = .ok (.getfield 104, 3) := by decide +kernel
theorem dX12_go_277 : decode cX12_go 277 = .ok (.aload_n 0, 1) := by decide +kernel
theorem dX12_go_278 : decode cX12_go 278 = .ok (.getfield 107, 3) := by decide +kernel
theorem dX12_go_281 : decode cX12_go 281 = .ok (.isub, 1) := by decide +kernel
theorem dX12_go_282 : decode cX12_go 282 = .ok (.bipush 6, 2) := by decide +kernel
theorem dX12_go_284 : decode cX12_go 284 = .ok (.if_icmp .ge 23, 3) := by decide +kernel
theorem dX12_go_287 : decode cX12_go 287 = .ok (.aload_n 0, 1) := by decide +kernel
theorem dX12_go_288 : decode cX12_go 288 = .ok (.ldc2_w 137, 3) := by decide +kernel
theorem dX12_go_291 : decode cX12_go 291 = .ok (.aload_n 0, 1) := by decide +kernel
theorem dX12_go_292 : decode cX12_go 292 = .ok (.getfield 126, 3) := by decide +kernel
theorem dX12_go_295 : decode cX12_go 295 = .ok (.lmul, 1) := by decide +kernel
theorem dX12_go_296 : decode cX12_go 296 = .ok (.iload 4, 2) := by decide +kernel
theorem dX12_go_298 : decode cX12_go 298 = .ok (.i2l, 1) := by decide +kernel
theorem dX12_go_299 : decode cX12_go 299 = .ok (.ladd, 1) := by decide +kernel
theorem dX12_go_300 : decode cX12_go 300 = .ok (.ldc2_w 139, 3) := by decide +kernel
theorem dX12_go_303 : decode cX12_go 303 = .ok (.lsub, 1) := by decide +kernel
theorem dX12_go_304 : decode cX12_go 304 = .ok (.putfield 126, 3) := by decide +kernel
theorem dX12_go_307 : decode cX12_go 307 = .ok (.aload_n 0, 1) := by decide +kernel
theorem dX12_go_308 : decode cX12_go 308 = .ok (.getfield 104, 3) := by decide +kernel
theorem dX12_go_311 : decode cX12_go 311 = .ok (.aload_n 0, 1) := by decide +kernel
theorem dX12_go_312 : decode cX12_go 312 = .ok (.getfield 107, 3) := by decide +kernel
theorem dX12_go_315 : decode cX12_go 315 = .ok (.isub, 1) := by decide +kernel
theorem dX12_go_316 : decode cX12_go 316 = .ok (.iconst 4, 1) := by decide +kernel
theorem dX12_go_317 : decode cX12_go 317 = .ok (.if_icmp .ge 20, 3) := by decide +kernel
theorem dX12_go_320 : decode cX12_go 320 = .ok (.aload_n 0, 1) := by decide +kernel
theorem dX12_go_321 : decode cX12_go 321 = .ok (.bipush 10, 2) := by decide +kernel
theorem dX12_go_323 : decode cX12_go 323 = .ok (.aload_n 0, 1) := by decide +kernel
theorem dX12_go_324 : decode cX12_go 324 = .ok (.getfield 130, 3) := by decide +kernel
theorem dX12_go_327 : decode cX12_go 327 = .ok (.imul, 1) := by decide +kernel
theorem dX12_go_328 : decode cX12_go 328 = .ok (.iload 4, 2) := by decide +kernel
theorem dX12_go_330 : decode cX12_go 330 = .ok (.iadd, 1) := by decide +kernel
theorem dX12_go_331 : decode cX12_go 331 = .ok (.bipush 48, 2) := by decide +kernel
theorem dX12_go_333 : decode cX12_go 333 = .ok (.isub, 1) := by decide +kernel
theorem dX12_go_334 : decode cX12_go 334 = .ok (.putfield 130, 3) := by decide +kernel
theorem dX12_go_337 : decode cX12_go 337 = .ok (.aload_n 0, 1) := by decide +kernel
theorem dX12_go_338 : decode cX12_go 338 = .ok (.dup, 1) := by decide +kernel
theorem dX12_go_339 : decode cX12_go 339 = .ok (.getfield 104, 3) := by decide +kernel
theorem dX12_go_342 : decode cX12_go 342 = .ok (.iconst 1, 1) := by decide +kernel
theorem dX12_go_343 : decode cX12_go 343 = .ok (.iadd, 1) := by decide +kernel
theorem dX12_go_344 : decode cX12_go 344 = .ok (.putfield 104, 3) := by decide +kernel
theorem dX12_go_347 : decode cX12_go 347 = .ok (.goto (-132), 3) := by decide +kernel
theorem dX12_go_350 : decode cX12_go 350 = .ok (.aload_n 0, 1) := by decide +kernel
theorem dX12_go_351 : decode cX12_go 351 = .ok (.iload_n 3, 1) := by decide +kernel
theorem dX12_go_352 : decode cX12_go 352 = .ok (.ifCond .eq 25, 3) := by decide +kernel
theorem dX12_go_355 : decode cX12_go 355 = .ok (.aload_n 0, 1) := by decide +kernel
theorem dX12_go_356 : decode cX12_go 356 = .ok (.getfield 104, 3) := by decide +kernel
theorem dX12_go_359 : decode cX12_go 359 = .ok (.aload_n 0, 1) := by decide +kernel
theorem dX12_go_360 : decode cX12_go 360 = .ok (.getfield 107, 3) := by decide +kernel
theorem dX12_go_363 : decode cX12_go 363 = .ok (.isub, 1) := by decide +kernel
theorem dX12_go_364 : decode cX12_go 364 = .ok (.iload_n 2, 1) := by decide +kernel
theorem dX12_go_365 : decode cX12_go 365 = .ok (.ifCond .eq 8, 3) := by decide +kernel
theorem dX12_go_368 : decode cX12_go 368 = .ok (.bipush 6, 2) := by decide +kernel
theorem dX12_go_370 : decode cX12_go 370 = .ok (.goto 4, 3) := by decide +kernel
theorem dX12_go_373 : decode cX12_go 373 = .ok (.iconst 4, 1) := by decide +kernel
theorem dX12_go_374 : decode cX12_go 374 = .ok (.if_icmp .le 7, 3) := by decide +kernel
theorem dX12_go_377 : decode cX12_go 377 = .ok (.iconst 1, 1) := by decide +kernel
theorem dX12_go_378 : decode cX12_go 378 = .ok (.goto 12, 3) := by decide +kernel
theorem dX12_go_381 : decode cX12_go 381 = .ok (.iload_n 2, 1) := by decide +kernel
theorem dX12_go_382 : decode cX12_go 382 = .ok (.ifCond .eq 7, 3) := by decide +kernel
theorem dX12_go_385 : decode cX12_go 385 = .ok (.iconst 2, 1) := by decide +kernel
theorem dX12_go_386 : decode cX12_go 386 = .ok (.goto 4, 3) := by decide +kernel
theorem dX12_go_389 : decode cX12_go 389 = .ok (.iconst 3, 1) := by decide +kernel
theorem dX12_go_390 : decode cX12_go 390 = .ok (.putfield 113, 3) := by decide +kernel
theorem dX12_go_393 : decode cX12_go 393 = .ok (.return_, 1) := by decide +kernel
theorem dX12_spelt_0 : decode cX12_spelt 0 = .ok (.ldc2_w 137, 3) := by decide +kernel
theorem dX12_spelt_3 : decode cX12_spelt 3 = .ok (.iload_n 0, 1) := by decide +kernel
theorem dX12_spelt_4 : decode cX12_spelt 4 = .ok (.i2l, 1) := by decide +kernel
theorem dX12_spelt_5 : decode cX12_spelt 5 = .ok (.ldc2_w 139, 3) := by decide +kernel
theorem dX12_spelt_8 : decode cX12_spelt 8 = .ok (.lsub, 1) := by decide +kernel
theorem dX12_spelt_9 : decode cX12_spelt 9 = .ok (.lmul, 1) := by decide +kernel
theorem dX12_spelt_10 : decode cX12_spelt 10 = .ok (.iload_n 1, 1) := by decide +kernel
theorem dX12_spelt_11 : decode cX12_spelt 11 = .ok (.i2l, 1) := by decide +kernel
theorem dX12_spelt_12 : decode cX12_spelt 12 = .ok (.ladd, 1) := by decide +kernel
theorem dX12_spelt_13 : decode cX12_spelt 13 = .ok (.ldc2_w 139, 3) := by decide +kernel
theorem dX12_spelt_16 : decode cX12_spelt 16 = .ok (.lsub, 1) := by decide +kernel
theorem dX12_spelt_17 : decode cX12_spelt 17 = .ok (.lstore 4, 2) := by decide +kernel
theorem dX12_spelt_19 : decode cX12_spelt 19 = .ok (.iload_n 2, 1) := by decide +kernel
theorem dX12_spelt_20 : decode cX12_spelt 20 = .ok (.ifCond .le 18, 3) := by decide +kernel
theorem dX12_spelt_23 : decode cX12_spelt 23 = .ok (.ldc2_w 137, 3) := by decide +kernel
theorem dX12_spelt_26 : decode cX12_spelt 26 = .ok (.lload 4, 2) := by decide +kernel
theorem dX12_spelt_28 : decode cX12_spelt 28 = .ok (.lmul, 1) := by decide +kernel
theorem dX12_spelt_29 : decode cX12_spelt 29 = .ok (.iload_n 2, 1) := by decide +kernel
theorem dX12_spelt_30 : decode cX12_spelt 30 = .ok (.i2l, 1) := by decide +kernel
theorem dX12_spelt_31 : decode cX12_spelt 31 = .ok (.ladd, 1) := by decide +kernel
theorem dX12_spelt_32 : decode cX12_spelt 32 = .ok (.ldc2_w 139, 3) := by decide +kernel
theorem dX12_spelt_35 : decode cX12_spelt 35 = .ok (.lsub, 1) := by decide +kernel
theorem dX12_spelt_36 : decode cX12_spelt 36 = .ok (.lstore 4, 2) := by decide +kernel
theorem dX12_spelt_38 : decode cX12_spelt 38 = .ok (.iload_n 3, 1) := by decide +kernel
theorem dX12_spelt_39 : decode cX12_spelt 39 = .ok (.ifCond .le 19, 3) := by decide +kernel
theorem dX12_spelt_42 : decode cX12_spelt 42 = .ok (.ldc2_w 137, 3) := by decide +kernel
theorem dX12_spelt_45 : decode cX12_spelt 45 = .ok (.lload 4, 2) := by decide +kernel
theorem dX12_spelt_47 : decode cX12_spelt 47 = .ok (.lmul, 1) := by decide +kernel
theorem dX12_spelt_48 : decode cX12_spelt 48 = .ok (.iload_n 3, 1) := by decide +kernel
theorem dX12_spelt_49 : decode cX12_spelt 49 = .ok (.i2l, 1) := by decide +kernel
theorem dX12_spelt_50 : decode cX12_spelt 50 = .ok (.ladd, 1) := by decide +kernel
theorem dX12_spelt_51 : decode cX12_spelt 51 = .ok (.ldc2_w 139, 3) := by decide +kernel
theorem dX12_spelt_54 : decode cX12_spelt 54 = .ok (.lsub, 1) := by decide +kernel
theorem dX12_spelt_55 : decode cX12_spelt 55 = .ok (.goto 5, 3) := by decide +kernel
theorem dX12_spelt_58 : decode cX12_spelt 58 = .ok (.lload 4, 2) := by decide +kernel
theorem dX12_spelt_60 : decode cX12_spelt 60 = .ok (.lreturn, 1) := by decide +kernel
theorem dX12_on_0 : decode cX12_on 0 = .ok (.ldc2_w 137, 3) := by decide +kernel
theorem dX12_on_3 : decode cX12_on 3 = .ok (.lload_n 0, 1) := by decide +kernel
theorem dX12_on_4 : decode cX12_on 4 = .ok (.lmul, 1) := by decide +kernel
theorem dX12_on_5 : decode cX12_on 5 = .ok (.iload_n 2, 1) := by decide +kernel
theorem dX12_on_6 : decode cX12_on 6 = .ok (.i2l, 1) := by decide +kernel
theorem dX12_on_7 : decode cX12_on 7 = .ok (.ladd, 1) := by decide +kernel
theorem dX12_on_8 : decode cX12_on 8 = .ok (.ldc2_w 139, 3) := by decide +kernel
theorem dX12_on_11 : decode cX12_on 11 = .ok (.lsub, 1) := by decide +kernel
theorem dX12_on_12 : decode cX12_on 12 = .ok (.lstore 4, 2) := by decide +kernel
theorem dX12_on_14 : decode cX12_on 14 = .ok (.iload_n 3, 1) := by decide +kernel
theorem dX12_on_15 : decode cX12_on 15 = .ok (.ifCond .le 19, 3) := by decide +kernel
theorem dX12_on_18 : decode cX12_on 18 = .ok (.ldc2_w 137, 3) := by decide +kernel
theorem dX12_on_21 : decode cX12_on 21 = .ok (.lload 4, 2) := by decide +kernel
theorem dX12_on_23 : decode cX12_on 23 = .ok (.lmul, 1) := by decide +kernel
theorem dX12_on_24 : decode cX12_on 24 = .ok (.iload_n 3, 1) := by decide +kernel
theorem dX12_on_25 : decode cX12_on 25 = .ok (.i2l, 1) := by decide +kernel
theorem dX12_on_26 : decode cX12_on 26 = .ok (.ladd, 1) := by decide +kernel
theorem dX12_on_27 : decode cX12_on 27 = .ok (.ldc2_w 139, 3) := by decide +kernel
theorem dX12_on_30 : decode cX12_on 30 = .ok (.lsub, 1) := by decide +kernel
theorem dX12_on_31 : decode cX12_on 31 = .ok (.goto 5, 3) := by decide +kernel
theorem dX12_on_34 : decode cX12_on 34 = .ok (.lload 4, 2) := by decide +kernel
theorem dX12_on_36 : decode cX12_on 36 = .ok (.lreturn, 1) := by decide +kernel
theorem dX12_wordOf_0 : decode cX12_wordOf 0 = .ok (.iload_n 0, 1) := by decide +kernel
theorem dX12_wordOf_1 : decode cX12_wordOf 1 = .ok (.tableswitch 317 0 15 #[79, 97, 116, 134, 146, 158, 176, 195, 207, 217, 228, 239, 257, 276, 294, 306], 79) := by decide +kernel
theorem dX12_wordOf_80 : decode cX12_wordOf 80 = .ok (.bipush 114, 2) := by decide +kernel
theorem dX12_wordOf_82 : decode cX12_wordOf 82 = .ok (.bipush 101, 2) := by decide +kernel
theorem dX12_wordOf_84 : decode cX12_wordOf 84 = .ok (.bipush 97, 2) := by decide +kernel
theorem dX12_wordOf_86 : decode cX12_wordOf 86 = .ok (.bipush 99, 2) := by decide +kernel
theorem dX12_wordOf_88 : decode cX12_wordOf 88 = .ok (.invokestatic 141, 3) := by decide +kernel
theorem dX12_wordOf_91 : decode cX12_wordOf 91 = .ok (.bipush 104, 2) := by decide +kernel
theorem dX12_wordOf_93 : decode cX12_wordOf 93 = .ok (.iconst 0, 1) := by decide +kernel
theorem dX12_wordOf_94 : decode cX12_wordOf 94 = .ok (.invokestatic 145, 3) := by decide +kernel
theorem dX12_wordOf_97 : decode cX12_wordOf 97 = .ok (.lreturn, 1) := by decide +kernel
theorem dX12_wordOf_98 : decode cX12_wordOf 98 = .ok (.bipush 99, 2) := by decide +kernel
theorem dX12_wordOf_100 : decode cX12_wordOf 100 = .ok (.bipush 111, 2) := by decide +kernel
theorem dX12_wordOf_102 : decode cX12_wordOf 102 = .ok (.bipush 108, 2) := by decide +kernel
theorem dX12_wordOf_104 : decode cX12_wordOf 104 = .ok (.bipush 111, 2) := by decide +kernel
theorem dX12_wordOf_106 : decode cX12_wordOf 106 = .ok (.invokestatic 141, 3) := by decide +kernel
theorem dX12_wordOf_109 : decode cX12_wordOf 109 = .ok (.bipush 117, 2) := by decide +kernel
theorem dX12_wordOf_111 : decode cX12_wordOf 111 = .ok (.bipush 114, 2) := by decide +kernel
theorem dX12_wordOf_113 : decode cX12_wordOf 113 = .ok (.invokestatic 145, 3) := by decide +kernel
theorem dX12_wordOf_116 : decode cX12_wordOf 116 = .ok (.lreturn, 1) := by decide +kernel
theorem dX12_wordOf_117 : decode cX12_wordOf 117 = .ok (.bipush 103, 2) := by decide +kernel
theorem dX12_wordOf_119 : decode cX12_wordOf 119 = .ok (.bipush 117, 2) := by decide +kernel
theorem dX12_wordOf_121 : decode cX12_wordOf 121 = .ok (.bipush 105, 2) := by decide +kernel
theorem dX12_wordOf_123 : decode cX12_wordOf 123 = .ok (.bipush 108, 2) := by decide +kernel
theorem dX12_wordOf_125 : decode cX12_wordOf 125 = .ok (.invokestatic 141, 3) := by decide +kernel
theorem dX12_wordOf_128 : decode cX12_wordOf 128 = .ok (.bipush 100, 2) := by decide +kernel
theorem dX12_wordOf_130 : decode cX12_wordOf 130 = .ok (.iconst 0, 1) := by decide +kernel
theorem dX12_wordOf_131 : decode cX12_wordOf 131 = .ok (.invokestatic 145, 3) := by decide +kernel
theorem dX12_wordOf_134 : decode cX12_wordOf 134 = .ok (.lreturn, 1) := by decide +kernel
theorem dX12_wordOf_135 : decode cX12_wordOf 135 = .ok (.bipush 117, 2) := by decide +kernel
theorem dX12_wordOf_137 : decode cX12_wordOf 137 = .ok (.bipush 115, 2) := by decide +kernel
theorem dX12_wordOf_139 : decode cX12_wordOf 139 = .ok (.bipush 101, 2) := by decide +kernel
theorem dX12_wordOf_141 : decode cX12_wordOf 141 = .ok (.bipush 114, 2) := by decide +kernel
theorem dX12_wordOf_143 : decode cX12_wordOf 143 = .ok (.invokestatic 141, 3) := by decide +kernel
theorem dX12_wordOf_146 : decode cX12_wordOf 146 = .ok (.lreturn, 1) := by decide +kernel
theorem dX12_wordOf_147 : decode cX12_wordOf 147 = .ok (.bipush 102, 2) := by decide +kernel
theorem dX12_wordOf_149 : decode cX12_wordOf 149 = .ok (.bipush 108, 2) := by decide +kernel
theorem dX12_wordOf_151 : decode cX12_wordOf 151 = .ok (.bipush 111, 2) := by decide +kernel
theorem dX12_wordOf_153 : decode cX12_wordOf 153 = .ok (.bipush 119, 2) := by decide +kernel
theorem dX12_wordOf_155 : decode cX12_wordOf 155 = .ok (.invokestatic 141, 3) := by decide +kernel
theorem dX12_wordOf_158 : decode cX12_wordOf 158 = .ok (.lreturn, 1) := by decide +kernel
theorem dX12_wordOf_159 : decode cX12_wordOf 159 = .ok (.bipush 102, 2) := by decide +kernel
theorem dX12_wordOf_161 : decode cX12_wordOf 161 = .ok (.bipush 108, 2) := by decide +kernel
theorem dX12_wordOf_163 : decode cX12_wordOf 163 = .ok (.bipush 111, 2) := by decide +kernel
theorem dX12_wordOf_165 : decode cX12_wordOf 165 = .ok (.bipush 111, 2) := by decide +kernel
theorem dX12_wordOf_167 : decode cX12_wordOf 167 = .ok (.invokestatic 141, 3) := by decide +kernel
theorem dX12_wordOf_170 : decode cX12_wordOf 170 = .ok (.bipush 100, 2) := by decide +kernel
theorem dX12_wordOf_172 : decode cX12_wordOf 172 = .ok (.iconst 0, 1) := by decide +kernel
theorem dX12_wordOf_173 : decode cX12_wordOf 173 = .ok (.invokestatic 145, 3) := by decide +kernel
theorem dX12_wordOf_176 : decode cX12_wordOf 176 = .ok (.lreturn, 1) := by decide +kernel
theorem dX12_wordOf_177 : decode cX12_wordOf 177 = .ok (.bipush 112, 2) := by decide +kernel
theorem dX12_wordOf_179 : decode cX12_wordOf 179 = .ok (.bipush 101, 2) := by decide +kernel
theorem dX12_wordOf_181 : decode cX12_wordOf 181 = .ok (.bipush 98, 2) := by decide +kernel
theorem dX12_wordOf_183 : decode cX12_wordOf 183 = .ok (.bipush 98, 2) := by decide +kernel
theorem dX12_wordOf_185 : decode cX12_wordOf 185 = .ok (.invokestatic 141, 3) := by decide +kernel
theorem dX12_wordOf_188 : decode cX12_wordOf 188 = .ok (.bipush 108, 2) := by decide +kernel
theorem dX12_wordOf_190 : decode cX12_wordOf 190 = .ok (.bipush 101, 2) := by decide +kernel
theorem dX12_wordOf_192 : decode cX12_wordOf 192 = .ok (.invokestatic 145, 3) := by decide +kernel
theorem dX12_wordOf_195 : decode cX12_wordOf 195 = .ok (.lreturn, 1) := by decide +kernel
theorem dX12_wordOf_196 : decode cX12_wordOf 196 = .ok (.bipush 98, 2) := by decide +kernel
theorem dX12_wordOf_198 : decode cX12_wordOf 198 = .ok (.bipush 101, 2) := by decide +kernel
theorem dX12_wordOf_200 : decode cX12_wordOf 200 = .ok (.bipush 108, 2) := by decide +kernel
theorem dX12_wordOf_202 : decode cX12_wordOf 202 = .ok (.bipush 108, 2) := by decide +kernel
theorem dX12_wordOf_204 : decode cX12_wordOf 204 = .ok (.invokestatic 141, 3) := by decide +kernel
theorem dX12_wordOf_207 : decode cX12_wordOf 207 = .ok (.lreturn, 1) := by decide +kernel
theorem dX12_wordOf_208 : decode cX12_wordOf 208 = .ok (.bipush 111, 2) := by decide +kernel
theorem dX12_wordOf_210 : decode cX12_wordOf 210 = .ok (.bipush 114, 2) := by decide +kernel
theorem dX12_wordOf_212 : decode cX12_wordOf 212 = .ok (.iconst 0, 1) := by decide +kernel
theorem dX12_wordOf_213 : decode cX12_wordOf 213 = .ok (.iconst 0, 1) := by decide +kernel
theorem dX12_wordOf_214 : decode cX12_wordOf 214 = .ok (.invokestatic 141, 3) := by decide +kernel
theorem dX12_wordOf_217 : decode cX12_wordOf 217 = .ok (.lreturn, 1) := by decide +kernel
theorem dX12_wordOf_218 : decode cX12_wordOf 218 = .ok (.bipush 97, 2) := by decide +kernel
theorem dX12_wordOf_220 : decode cX12_wordOf 220 = .ok (.bipush 110, 2) := by decide +kernel
theorem dX12_wordOf_222 : decode cX12_wordOf 222 = .ok (.bipush 100, 2) := by decide +kernel
theorem dX12_wordOf_224 : decode cX12_wordOf 224 = .ok (.iconst 0, 1) := by decide +kernel
theorem dX12_wordOf_225 : decode cX12_wordOf 225 = .ok (.invokestatic 141, 3) := by decide +kernel
theorem dX12_wordOf_228 : decode cX12_wordOf 228 = .ok (.lreturn, 1) := by decide +kernel
theorem dX12_wordOf_229 : decode cX12_wordOf 229 = .ok (.bipush 110, 2) := by decide +kernel
theorem dX12_wordOf_231 : decode cX12_wordOf 231 = .ok (.bipush 111, 2) := by decide +kernel
theorem dX12_wordOf_233 : decode cX12_wordOf 233 = .ok (.bipush 116, 2) := by decide +kernel
theorem dX12_wordOf_235 : decode cX12_wordOf 235 = .ok (.iconst 0, 1) := by decide +kernel
theorem dX12_wordOf_236 : decode cX12_wordOf 236 = .ok (.invokestatic 141, 3) := by decide +kernel
theorem dX12_wordOf_239 : decode cX12_wordOf 239 = .ok (.lreturn, 1) := by decide +kernel
theorem dX12_wordOf_240 : decode cX12_wordOf 240 = .ok (.bipush 119, 2) := by decide +kernel
theorem dX12_wordOf_242 : decode cX12_wordOf 242 = .ok (.bipush 111, 2) := by decide +kernel
theorem dX12_wordOf_244 : decode cX12_wordOf 244 = .ok (.bipush 114, 2) := by decide +kernel
theorem dX12_wordOf_246 : decode cX12_wordOf 246 = .ok (.bipush 107, 2) := by decide +kernel
theorem dX12_wordOf_248 : decode cX12_wordOf 248 = .ok (.invokestatic 141, 3) := by decide +kernel
theorem dX12_wordOf_251 : decode cX12_wordOf 251 = .ok (.bipush 115, 2) := by decide +kernel
theorem dX12_wordOf_253 : decode cX12_wordOf 253 = .ok (.iconst 0, 1) := by decide +kernel
theorem dX12_wordOf_254 : decode cX12_wordOf 254 = .ok (.invokestatic 145, 3) := by decide +kernel
theorem dX12_wordOf_257 : decode cX12_wordOf 257 = .ok (.lreturn, 1) := by decide +kernel
theorem dX12_wordOf_258 : decode cX12_wordOf 258 = .ok (.bipush 104, 2) := by decide +kernel
theorem dX12_wordOf_260 : decode cX12_wordOf 260 = .ok (.bipush 97, 2) := by decide +kernel
theorem dX12_wordOf_262 : decode cX12_wordOf 262 = .ok (.bipush 114, 2) := by decide +kernel
theorem dX12_wordOf_264 : decode cX12_wordOf 264 = .ok (.bipush 109, 2) := by decide +kernel
theorem dX12_wordOf_266 : decode cX12_wordOf 266 = .ok (.invokestatic 141, 3) := by decide +kernel
theorem dX12_wordOf_269 : decode cX12_wordOf 269 = .ok (.bipush 101, 2) := by decide +kernel
theorem dX12_wordOf_271 : decode cX12_wordOf 271 = .ok (.bipush 100, 2) := by decide +kernel
theorem dX12_wordOf_273 : decode cX12_wordOf 273 = .ok (.invokestatic 145, 3) := by decide +kernel
theorem dX12_wordOf_276 : decode cX12_wordOf 276 = .ok (.lreturn, 1) := by decide +kernel
theorem dX12_wordOf_277 : decode cX12_wordOf 277 = .ok (.bipush 115, 2) := by decide +kernel
theorem dX12_wordOf_279 : decode cX12_wordOf 279 = .ok (.bipush 104, 2) := by decide +kernel
theorem dX12_wordOf_281 : decode cX12_wordOf 281 = .ok (.bipush 97, 2) := by decide +kernel
theorem dX12_wordOf_283 : decode cX12_wordOf 283 = .ok (.bipush 100, 2) := by decide +kernel
theorem dX12_wordOf_285 : decode cX12_wordOf 285 = .ok (.invokestatic 141, 3) := by decide +kernel
theorem dX12_wordOf_288 : decode cX12_wordOf 288 = .ok (.bipush 101, 2) := by decide +kernel
theorem dX12_wordOf_290 : decode cX12_wordOf 290 = .ok (.iconst 0, 1) := by decide +kernel
theorem dX12_wordOf_291 : decode cX12_wordOf 291 = .ok (.invokestatic 145, 3) := by decide +kernel
theorem dX12_wordOf_294 : decode cX12_wordOf 294 = .ok (.lreturn, 1) := by decide +kernel
theorem dX12_wordOf_295 : decode cX12_wordOf 295 = .ok (.bipush 104, 2) := by decide +kernel
theorem dX12_wordOf_297 : decode cX12_wordOf 297 = .ok (.bipush 111, 2) := by decide +kernel
theorem dX12_wordOf_299 : decode cX12_wordOf 299 = .ok (.bipush 117, 2) := by decide +kernel
theorem dX12_wordOf_301 : decode cX12_wordOf 301 = .ok (.bipush 114, 2) := by decide +kernel
theorem dX12_wordOf_303 : decode cX12_wordOf 303 = .ok (.invokestatic 141, 3) := by decide +kernel
theorem dX12_wordOf_306 : decode cX12_wordOf 306 = .ok (.lreturn, 1) := by decide +kernel
theorem dX12_wordOf_307 : decode cX12_wordOf 307 = .ok (.bipush 100, 2) := by decide +kernel
theorem dX12_wordOf_309 : decode cX12_wordOf 309 = .ok (.bipush 97, 2) := by decide +kernel
theorem dX12_wordOf_311 : decode cX12_wordOf 311 = .ok (.bipush 121, 2) := by decide +kernel
theorem dX12_wordOf_313 : decode cX12_wordOf 313 = .ok (.iconst 0, 1) := by decide +kernel
theorem dX12_wordOf_314 : decode cX12_wordOf 314 = .ok (.invokestatic 141, 3) := by decide +kernel
theorem dX12_wordOf_317 : decode cX12_wordOf 317 = .ok (.lreturn, 1) := by decide +kernel
theorem dX12_wordOf_318 : decode cX12_wordOf 318 = .ok (.bipush 112, 2) := by decide +kernel
theorem dX12_wordOf_320 : decode cX12_wordOf 320 = .ok (.bipush 97, 2) := by decide +kernel
theorem dX12_wordOf_322 : decode cX12_wordOf 322 = .ok (.bipush 115, 2) := by decide +kernel
theorem dX12_wordOf_324 : decode cX12_wordOf 324 = .ok (.bipush 115, 2) := by decide +kernel
theorem dX12_wordOf_326 : decode cX12_wordOf 326 = .ok (.invokestatic 141, 3) := by decide +kernel
theorem dX12_wordOf_329 : decode cX12_wordOf 329 = .ok (.bipush 101, 2) := by decide +kernel
theorem dX12_wordOf_331 : decode cX12_wordOf 331 = .ok (.bipush 100, 2) := by decide +kernel
theorem dX12_wordOf_333 : decode cX12_wordOf 333 = .ok (.invokestatic 145, 3) := by decide +kernel
theorem dX12_wordOf_336 : decode cX12_wordOf 336 = .ok (.lreturn, 1) := by decide +kernel
theorem dX12_isWord_0 : decode cX12_isWord 0 = .ok (.aload_n 0, 1) := by decide +kernel
theorem dX12_isWord_1 : decode cX12_isWord 1 = .ok (.getfield 113, 3) := by decide +kernel
theorem dX12_isWord_4 : decode cX12_isWord 4 = .ok (.iconst 2, 1) := by decide +kernel
theorem dX12_isWord_5 : decode cX12_isWord 5 = .ok (.if_icmp .ne 19, 3) := by decide +kernel
theorem dX12_isWord_8 : decode cX12_isWord 8 = .ok (.aload_n 0, 1) := by decide +kernel
theorem dX12_isWord_9 : decode cX12_isWord 9 = .ok (.getfield 126, 3) := by decide +kernel
theorem dX12_isWord_12 : decode cX12_isWord 12 = .ok (.iload_n 1, 1) := by decide +kernel
theorem dX12_isWord_13 : decode cX12_isWord 13 = .ok (.invokestatic 149, 3) := by decide +kernel
theorem dX12_isWord_16 : decode cX12_isWord 16 = .ok (.lcmp, 1) := by decide +kernel
theorem dX12_isWord_17 : decode cX12_isWord 17 = .ok (.ifCond .ne 7, 3) := by decide +kernel
theorem dX12_isWord_20 : decode cX12_isWord 20 = .ok (.iconst 1, 1) := by decide +kernel
theorem dX12_isWord_21 : decode cX12_isWord 21 = .ok (.goto 4, 3) := by decide +kernel
theorem dX12_isWord_24 : decode cX12_isWord 24 = .ok (.iconst 0, 1) := by decide +kernel
theorem dX12_isWord_25 : decode cX12_isWord 25 = .ok (.ireturn, 1) := by decide +kernel
theorem dX12_isSign_0 : decode cX12_isSign 0 = .ok (.aload_n 0, 1) := by decide +kernel
theorem dX12_isSign_1 : decode cX12_isSign 1 = .ok (.getfield 113, 3) := by decide +kernel
theorem dX12_isSign_4 : decode cX12_isSign 4 = .ok (.iconst 4, 1) := by decide +kernel
theorem dX12_isSign_5 : decode cX12_isSign 5 = .ok (.if_icmp .ne 15, 3) := by decide +kernel
theorem dX12_isSign_8 : decode cX12_isSign 8 = .ok (.aload_n 0, 1) := by decide +kernel
theorem dX12_isSign_9 : decode cX12_isSign 9 = .ok (.getfield 123, 3) := by decide +kernel
theorem dX12_isSign_12 : decode cX12_isSign 12 = .ok (.iload_n 1, 1) := by decide +kernel
theorem dX12_isSign_13 : decode cX12_isSign 13 = .ok (.if_icmp .ne 7, 3) := by decide +kernel
theorem dX12_isSign_16 : decode cX12_isSign 16 = .ok (.iconst 1, 1) := by decide +kernel
theorem dX12_isSign_17 : decode cX12_isSign 17 = .ok (.goto 4, 3) := by decide +kernel
theorem dX12_isSign_20 : decode cX12_isSign 20 = .ok (.iconst 0, 1) := by decide +kernel
theorem dX12_isSign_21 : decode cX12_isSign 21 = .ok (.ireturn, 1) := by decide +kernel
theorem dX12_isName_0 : decode cX12_isName 0 = .ok (.aload_n 0, 1) := by decide +kernel
theorem dX12_isName_1 : decode cX12_isName 1 = .ok (.getfield 113, 3) := by decide +kernel
theorem dX12_isName_4 : decode cX12_isName 4 = .ok (.iconst 2, 1) := by decide +kernel
theorem dX12_isName_5 : decode cX12_isName 5 = .ok (.if_icmp .eq 5, 3) := by decide +kernel
theorem dX12_isName_8 : decode cX12_isName 8 = .ok (.iconst 0, 1) := by decide +kernel
theorem dX12_isName_9 : decode cX12_isName 9 = .ok (.ireturn, 1) := by decide +kernel
theorem dX12_isName_10 : decode cX12_isName 10 = .ok (.iconst 0, 1) := by decide +kernel
theorem dX12_isName_11 : decode cX12_isName 11 = .ok (.istore_n 1, 1) := by decide +kernel
theorem dX12_isName_12 : decode cX12_isName 12 = .ok (.iload_n 1, 1) := by decide +kernel
theorem dX12_isName_13 : decode cX12_isName 13 = .ok (.bipush 16, 2) := by decide +kernel
theorem dX12_isName_15 : decode cX12_isName 15 = .ok (.if_icmp .gt 23, 3) := by decide +kernel
theorem dX12_isName_18 : decode cX12_isName 18 = .ok (.aload_n 0, 1) := by decide +kernel
theorem dX12_isName_19 : decode cX12_isName 19 = .ok (.getfield 126, 3) := by decide +kernel
theorem dX12_isName_22 : decode cX12_isName 22 = .ok (.iload_n 1, 1) := by decide +kernel
theorem dX12_isName_23 : decode cX12_isName 23 = .ok (.invokestatic 149, 3) := by decide +kernel
theorem dX12_isName_26 : decode cX12_isName 26 = .ok (.lcmp, 1) := by decide +kernel
theorem dX12_isName_27 : decode cX12_isName 27 = .ok (.ifCond .ne 5, 3) := by decide +kernel
theorem dX12_isName_30 : decode cX12_isName 30 = .ok (.iconst 0, 1) := by decide +kernel
theorem dX12_isName_31 : decode cX12_isName 31 = .ok (.ireturn, 1) := by decide +kernel
theorem dX12_isName_32 : decode cX12_isName 32 = .ok (.iinc 1 1, 3) := by decide +kernel
theorem dX12_isName_35 : decode cX12_isName 35 = .ok (.goto (-23), 3) := by decide +kernel
theorem dX12_isName_38 : decode cX12_isName 38 = .ok (.iconst 1, 1) := by decide +kernel
theorem dX12_isName_39 : decode cX12_isName 39 = .ok (.ireturn, 1) := by decide +kernel
theorem dX12_bad_0 : decode cX12_bad 0 = .ok (.aload_n 0, 1) := by decide +kernel
theorem dX12_bad_1 : decode cX12_bad 1 = .ok (.aload_n 0, 1) := by decide +kernel
theorem dX12_bad_2 : decode cX12_bad 2 = .ok (.getfield 113, 3) := by decide +kernel
theorem dX12_bad_5 : decode cX12_bad 5 = .ok (.iconst 1, 1) := by decide +kernel
theorem dX12_bad_6 : decode cX12_bad 6 = .ok (.if_icmp .ne 7, 3) := by decide +kernel
theorem dX12_bad_9 : decode cX12_bad 9 = .ok (.iconst 1, 1) := by decide +kernel
theorem dX12_bad_10 : decode cX12_bad 10 = .ok (.goto 4, 3) := by decide +kernel
theorem dX12_bad_13 : decode cX12_bad 13 = .ok (.iload_n 1, 1) := by decide +kernel
theorem dX12_bad_14 : decode cX12_bad 14 = .ok (.putfield 153, 3) := by decide +kernel
theorem dX12_bad_17 : decode cX12_bad 17 = .ok (.aload_n 0, 1) := by decide +kernel
theorem dX12_bad_18 : decode cX12_bad 18 = .ok (.aload_n 0, 1) := by decide +kernel
theorem dX12_bad_19 : decode cX12_bad 19 = .ok (.getfield 107, 3) := by decide +kernel
theorem dX12_bad_22 : decode cX12_bad 22 = .ok (.putfield 156, 3) := by decide +kernel
theorem dX12_bad_25 : decode cX12_bad 25 = .ok (.iconst 0, 1) := by decide +kernel
theorem dX12_bad_26 : decode cX12_bad 26 = .ok (.ireturn, 1) := by decide +kernel
theorem dX12_readNumber_0 : decode cX12_readNumber 0 = .ok (.aload_n 0, 1) := by decide +kernel
theorem dX12_readNumber_1 : decode cX12_readNumber 1 = .ok (.getfield 113, 3) := by decide +kernel
theorem dX12_readNumber_4 : decode cX12_readNumber 4 = .ok (.iconst 3, 1) := by decide +kernel
theorem dX12_readNumber_5 : decode cX12_readNumber 5 = .ok (.if_icmp .eq 9, 3) := by decide +kernel
theorem dX12_readNumber_8 : decode cX12_readNumber 8 = .ok (.aload_n 0, 1) := by decide +kernel
theorem dX12_readNumber_9 : decode cX12_readNumber 9 = .ok (.iconst 1, 1) := by decide +kernel
theorem dX12_readNumber_10 : decode cX12_readNumber 10 = .ok (.invokevirtual 159, 3) := by decide +kernel
theorem dX12_readNumber_13 : decode cX12_readNumber 13 = .ok (.ireturn, 1) := by decide +kernel
theorem dX12_readNumber_14 : decode cX12_readNumber 14 = .ok (.aload_n 0, 1) := by decide +kernel
theorem dX12_readNumber_15 : decode cX12_readNumber 15 = .ok (.getfield 130, 3) := by decide +kernel
theorem dX12_readNumber_18 : decode cX12_readNumber 18 = .ok (.iload_n 1, 1) := by decide +kernel
theorem dX12_readNumber_19 : decode cX12_readNumber 19 = .ok (.iload_n 2, 1) := by decide +kernel
theorem dX12_readNumber_20 : decode cX12_readNumber 20 = .ok (.invokestatic 162, 3) := by decide +kernel
theorem dX12_readNumber_23 : decode cX12_readNumber 23 = .ok (.ifCond .ne 9, 3) := by decide +kernel
theorem dX12_readNumber_26 : decode cX12_readNumber 26 = .ok (.aload_n 0, 1) := by decide +kernel
theorem dX12_readNumber_27 : decode cX12_readNumber 27 = .ok (.iconst 2, 1) := by decide +kernel
theorem dX12_readNumber_28 : decode cX12_readNumber 28 = .ok (.invokevirtual 159, 3) := by decide +kernel
theorem dX12_readNumber_31 : decode cX12_readNumber 31 = .ok (.ireturn, 1) := by decide +kernel
theorem dX12_readNumber_32 : decode cX12_readNumber 32 = .ok (.aload_n 0, 1) := by decide +kernel
theorem dX12_readNumber_33 : decode cX12_readNumber 33 = .ok (.aload_n 0, 1) := by decide +kernel
theorem dX12_readNumber_34 : decode cX12_readNumber 34 = .ok (.getfield 130, 3) := by decide +kernel
theorem dX12_readNumber_37 : decode cX12_readNumber 37 = .ok (.putfield 166, 3) := by decide +kernel
theorem dX12_readNumber_40 : decode cX12_readNumber 40 = .ok (.aload_n 0, 1) := by decide +kernel
theorem dX12_readNumber_41 : decode cX12_readNumber 41 = .ok (.invokevirtual 169, 3) := by decide +kernel
theorem dX12_readNumber_44 : decode cX12_readNumber 44 = .ok (.iconst 1, 1) := by decide +kernel
theorem dX12_readNumber_45 : decode cX12_readNumber 45 = .ok (.ireturn, 1) := by decide +kernel
theorem dX12_readEnd_0 : decode cX12_readEnd 0 = .ok (.aload_n 0, 1) := by decide +kernel
theorem dX12_readEnd_1 : decode cX12_readEnd 1 = .ok (.bipush 59, 2) := by decide +kernel
theorem dX12_readEnd_3 : decode cX12_readEnd 3 = .ok (.invokevirtual 172, 3) := by decide +kernel
theorem dX12_readEnd_6 : decode cX12_readEnd 6 = .ok (.ifCond .ne 9, 3) := by decide +kernel
theorem dX12_readEnd_9 : decode cX12_readEnd 9 = .ok (.aload_n 0, 1) := by decide +kernel
theorem dX12_readEnd_10 : decode cX12_readEnd 10 = .ok (.iconst 1, 1) := by decide +kernel
theorem dX12_readEnd_11 : decode cX12_readEnd 11 = .ok (.invokevirtual 159, 3) := by decide +kernel
theorem dX12_readEnd_14 : decode cX12_readEnd 14 = .ok (.ireturn, 1) := by decide +kernel
theorem dX12_readEnd_15 : decode cX12_readEnd 15 = .ok (.aload_n 0, 1) := by decide +kernel
theorem dX12_readEnd_16 : decode cX12_readEnd 16 = .ok (.invokevirtual 169, 3) := by decide +kernel
theorem dX12_readEnd_19 : decode cX12_readEnd 19 = .ok (.iconst 1, 1) := by decide +kernel
theorem dX12_readEnd_20 : decode cX12_readEnd 20 = .ok (.ireturn, 1) := by decide +kernel
theorem dX12_begin_0 : decode cX12_begin 0 = .ok (.aload_n 0, 1) := by decide +kernel
theorem dX12_begin_1 : decode cX12_begin 1 = .ok (.iconst 0, 1) := by decide +kernel
theorem dX12_begin_2 : decode cX12_begin 2 = .ok (.putfield 91, 3) := by decide +kernel
theorem dX12_begin_5 : decode cX12_begin 5 = .ok (.aload_n 0, 1) := by decide +kernel
theorem dX12_begin_6 : decode cX12_begin 6 = .ok (.invokevirtual 175, 3) := by decide +kernel
theorem dX12_begin_9 : decode cX12_begin 9 = .ok (.aload_n 0, 1) := by decide +kernel
theorem dX12_begin_10 : decode cX12_begin 10 = .ok (.aload_n 0, 1) := by decide +kernel
theorem dX12_begin_11 : decode cX12_begin 11 = .ok (.invokevirtual 178, 3) := by decide +kernel
theorem dX12_begin_14 : decode cX12_begin 14 = .ok (.putfield 101, 3) := by decide +kernel
theorem dX12_begin_17 : decode cX12_begin 17 = .ok (.aload_n 0, 1) := by decide +kernel
theorem dX12_begin_18 : decode cX12_begin 18 = .ok (.iload_n 1, 1) := by decide +kernel
theorem dX12_begin_19 : decode cX12_begin 19 = .ok (.putfield 110, 3) := by decide +kernel
theorem dX12_begin_22 : decode cX12_begin 22 = .ok (.aload_n 0, 1) := by decide +kernel
theorem dX12_begin_23 : decode cX12_begin 23 = .ok (.iconst 0, 1) := by decide +kernel
theorem dX12_begin_24 : decode cX12_begin 24 = .ok (.putfield 153, 3) := by decide +kernel
theorem dX12_begin_27 : decode cX12_begin 27 = .ok (.aload_n 0, 1) := by decide +kernel
theorem dX12_begin_28 : decode cX12_begin 28 = .ok (.iconst 0, 1) := by decide +kernel
theorem dX12_begin_29 : decode cX12_begin 29 = .ok (.putfield 104, 3) := by decide +kernel
theorem dX12_begin_32 : decode cX12_begin 32 = .ok (.aload_n 0, 1) := by decide +kernel
theorem dX12_begin_33 : decode cX12_begin 33 = .ok (.invokevirtual 169, 3) := by decide +kernel
theorem dX12_begin_36 : decode cX12_begin 36 = .ok (.return_, 1) := by decide +kernel
theorem dX12_lay_0 : decode cX12_lay 0 = .ok (.aload_n 0, 1) := by decide +kernel
theorem dX12_lay_1 : decode cX12_lay 1 = .ok (.getfield 182, 3) := by decide +kernel
theorem dX12_lay_4 : decode cX12_lay 4 = .ok (.ifCond .eq 4, 3) := by decide +kernel
theorem dX12_lay_7 : decode cX12_lay 7 = .ok (.return_, 1) := by decide +kernel
theorem dX12_lay_8 : decode cX12_lay 8 = .ok (.aload_n 0, 1) := by decide +kernel
theorem dX12_lay_9 : decode cX12_lay 9 = .ok (.iconst 1, 1) := by decide +kernel
theorem dX12_lay_10 : decode cX12_lay 10 = .ok (.putfield 182, 3) := by decide +kernel
theorem dX12_lay_13 : decode cX12_lay 13 = .ok (.aload_n 0, 1) := by decide +kernel
theorem dX12_lay_14 : decode cX12_lay 14 = .ok (.getfield 13, 3) := by decide +kernel
theorem dX12_lay_17 : decode cX12_lay 17 = .ok (.invokestatic 186, 3) := by decide +kernel
theorem dX12_lay_20 : decode cX12_lay 20 = .ok (.return_, 1) := by decide +kernel
theorem dX12_standard_0 : decode cX12_standard 0 = .ok (.iconst 0, 1) := by decide +kernel
theorem dX12_standard_1 : decode cX12_standard 1 = .ok (.istore_n 1, 1) := by decide +kernel
theorem dX12_standard_2 : decode cX12_standard 2 = .ok (.iload_n 1, 1) := by decide +kernel
theorem dX12_standard_3 : decode cX12_standard 3 = .ok (.sipush 160, 3) := by decide +kernel
theorem dX12_standard_6 : decode cX12_standard 6 = .ok (.if_icmp .ge 13, 3) := by decide +kernel
theorem dX12_standard_9 : decode cX12_standard 9 = .ok (.aload_n 0, 1) := by decide +kernel
theorem dX12_standard_10 : decode cX12_standard 10 = .ok (.iload_n 1, 1) := by decide +kernel
theorem dX12_standard_11 : decode cX12_standard 11 = .ok (.iconst 0, 1) := by decide +kernel
theorem dX12_standard_12 : decode cX12_standard 12 = .ok (.iastore, 1) := by decide +kernel
theorem dX12_standard_13 : decode cX12_standard 13 = .ok (.iinc 1 1, 3) := by decide +kernel
theorem dX12_standard_16 : decode cX12_standard 16 = .ok (.goto (-14), 3) := by decide +kernel
theorem dX12_standard_19 : decode cX12_standard 19 = .ok (.aload_n 0, 1) := by decide +kernel
theorem dX12_standard_20 : decode cX12_standard 20 = .ok (.iconst 5, 1) := by decide +kernel
theorem dX12_standard_21 : decode cX12_standard 21 = .ok (.sipush 9999, 3) := by decide +kernel
theorem dX12_standard_24 : decode cX12_standard 24 = .ok (.iastore, 1) := by decide +kernel
theorem dX12_standard_25 : decode cX12_standard 25 = .ok (.iconst 0, 1) := by decide +kernel
theorem dX12_standard_26 : decode cX12_standard 26 = .ok (.istore_n 1, 1) := by decide +kernel
theorem dX12_standard_27 : decode cX12_standard 27 = .ok (.iload_n 1, 1) := by decide +kernel
theorem dX12_standard_28 : decode cX12_standard 28 = .ok (.bipush 7, 2) := by decide +kernel
theorem dX12_standard_30 : decode cX12_standard 30 = .ok (.if_icmp .ge 17, 3) := by decide +kernel
theorem dX12_standard_33 : decode cX12_standard 33 = .ok (.aload_n 0, 1) := by decide +kernel
theorem dX12_standard_34 : decode cX12_standard 34 = .ok (.bipush 110, 2) := by decide +kernel
theorem dX12_standard_36 : decode cX12_standard 36 = .ok (.iload_n 1, 1) := by decide +kernel
theorem dX12_standard_37 : decode cX12_standard 37 = .ok (.iadd, 1) := by decide +kernel
theorem dX12_standard_38 : decode cX12_standard 38 = .ok (.bipush 100, 2) := by decide +kernel
theorem dX12_standard_40 : decode cX12_standard 40 = .ok (.iastore, 1) := by decide +kernel
theorem dX12_standard_41 : decode cX12_standard 41 = .ok (.iinc 1 1, 3) := by decide +kernel
theorem dX12_standard_44 : decode cX12_standard 44 = .ok (.goto (-17), 3) := by decide +kernel
theorem dX12_standard_47 : decode cX12_standard 47 = .ok (.return_, 1) := by decide +kernel
theorem dX12_reaches_0 : decode cX12_reaches 0 = .ok (.aload_n 0, 1) := by decide +kernel
theorem dX12_reaches_1 : decode cX12_reaches 1 = .ok (.getfield 13, 3) := by decide +kernel
theorem dX12_reaches_4 : decode cX12_reaches 4 = .ok (.iconst 0, 1) := by decide +kernel
theorem dX12_reaches_5 : decode cX12_reaches 5 = .ok (.iaload, 1) := by decide +kernel
theorem dX12_reaches_6 : decode cX12_reaches 6 = .ok (.ireturn, 1) := by decide +kernel
theorem dX12_colours_0 : decode cX12_colours 0 = .ok (.aload_n 0, 1) := by decide +kernel
theorem dX12_colours_1 : decode cX12_colours 1 = .ok (.getfield 13, 3) := by decide +kernel
theorem dX12_colours_4 : decode cX12_colours 4 = .ok (.iconst 1, 1) := by decide +kernel
theorem dX12_colours_5 : decode cX12_colours 5 = .ok (.iaload, 1) := by decide +kernel
theorem dX12_colours_6 : decode cX12_colours 6 = .ok (.ireturn, 1) := by decide +kernel
theorem dX12_guilds_0 : decode cX12_guilds 0 = .ok (.aload_n 0, 1) := by decide +kernel
theorem dX12_guilds_1 : decode cX12_guilds 1 = .ok (.getfield 13, 3) := by decide +kernel
theorem dX12_guilds_4 : decode cX12_guilds 4 = .ok (.iconst 2, 1) := by decide +kernel
theorem dX12_guilds_5 : decode cX12_guilds 5 = .ok (.iaload, 1) := by decide +kernel
theorem dX12_guilds_6 : decode cX12_guilds 6 = .ok (.ireturn, 1) := by decide +kernel
theorem dX12_users_0 : decode cX12_users 0 = .ok (.aload_n 0, 1) := by decide +kernel
theorem dX12_users_1 : decode cX12_users 1 = .ok (.getfield 13, 3) := by decide +kernel
theorem dX12_users_4 : decode cX12_users 4 = .ok (.iconst 3, 1) := by decide +kernel
theorem dX12_users_5 : decode cX12_users 5 = .ok (.iaload, 1) := by decide +kernel
theorem dX12_users_6 : decode cX12_users 6 = .ok (.ireturn, 1) := by decide +kernel
theorem dX12_bells_0 : decode cX12_bells 0 = .ok (.aload_n 0, 1) := by decide +kernel
theorem dX12_bells_1 : decode cX12_bells 1 = .ok (.getfield 13, 3) := by decide +kernel
theorem dX12_bells_4 : decode cX12_bells 4 = .ok (.sipush 160, 3) := by decide +kernel
theorem dX12_bells_7 : decode cX12_bells 7 = .ok (.iaload, 1) := by decide +kernel
theorem dX12_bells_8 : decode cX12_bells 8 = .ok (.ireturn, 1) := by decide +kernel
theorem dX12_isReach_0 : decode cX12_isReach 0 = .ok (.iload_n 1, 1) := by decide +kernel
theorem dX12_isReach_1 : decode cX12_isReach 1 = .ok (.ifCond .lt 15, 3) := by decide +kernel
theorem dX12_isReach_4 : decode cX12_isReach 4 = .ok (.iload_n 1, 1) := by decide +kernel
theorem dX12_isReach_5 : decode cX12_isReach 5 = .ok (.aload_n 0, 1) := by decide +kernel
theorem dX12_isReach_6 : decode cX12_isReach 6 = .ok (.invokevirtual 190, 3) := by decide +kernel
theorem dX12_isReach_9 : decode cX12_isReach 9 = .ok (.if_icmp .ge 7, 3) := by decide +kernel
theorem dX12_isReach_12 : decode cX12_isReach 12 = .ok (.iconst 1, 1) := by decide +kernel
theorem dX12_isReach_13 : decode cX12_isReach 13 = .ok (.goto 4, 3) := by decide +kernel
theorem dX12_isReach_16 : decode cX12_isReach 16 = .ok (.iconst 0, 1) := by decide +kernel
theorem dX12_isReach_17 : decode cX12_isReach 17 = .ok (.ireturn, 1) := by decide +kernel
theorem dX12_isColour_0 : decode cX12_isColour 0 = .ok (.iload_n 1, 1) := by decide +kernel
theorem dX12_isColour_1 : decode cX12_isColour 1 = .ok (.ifCond .lt 15, 3) := by decide +kernel
theorem dX12_isColour_4 : decode cX12_isColour 4 = .ok (.iload_n 1, 1) := by decide +kernel
theorem dX12_isColour_5 : decode cX12_isColour 5 = .ok (.aload_n 0, 1) := by decide +kernel
theorem dX12_isColour_6 : decode cX12_isColour 6 = .ok (.invokevirtual 193, 3) := by decide +kernel
theorem dX12_isColour_9 : decode cX12_isColour 9 = .ok (.if_icmp .ge 7, 3) := by decide +kernel
theorem dX12_isColour_12 : decode cX12_isColour 12 = .ok (.iconst 1, 1) := by decide +kernel
theorem dX12_isColour_13 : decode cX12_isColour 13 = .ok (.goto 4, 3) := by decide +kernel
theorem dX12_isColour_16 : decode cX12_isColour 16 = .ok (.iconst 0, 1) := by decide +kernel
theorem dX12_isColour_17 : decode cX12_isColour 17 = .ok (.ireturn, 1) := by decide +kernel
theorem dX12_isGuild_0 : decode cX12_isGuild 0 = .ok (.iload_n 1, 1) := by decide +kernel
theorem dX12_isGuild_1 : decode cX12_isGuild 1 = .ok (.ifCond .lt 15, 3) := by decide +kernel
theorem dX12_isGuild_4 : decode cX12_isGuild 4 = .ok (.iload_n 1, 1) := by decide +kernel
theorem dX12_isGuild_5 : decode cX12_isGuild 5 = .ok (.aload_n 0, 1) := by decide +kernel
theorem dX12_isGuild_6 : decode cX12_isGuild 6 = .ok (.invokevirtual 196, 3) := by decide +kernel
theorem dX12_isGuild_9 : decode cX12_isGuild 9 = .ok (.if_icmp .ge 7, 3) := by decide +kernel
theorem dX12_isGuild_12 : decode cX12_isGuild 12 = .ok (.iconst 1, 1) := by decide +kernel
theorem dX12_isGuild_13 : decode cX12_isGuild 13 = .ok (.goto 4, 3) := by decide +kernel
theorem dX12_isGuild_16 : decode cX12_isGuild 16 = .ok (.iconst 0, 1) := by decide +kernel
theorem dX12_isGuild_17 : decode cX12_isGuild 17 = .ok (.ireturn, 1) := by decide +kernel
theorem dX12_isUser_0 : decode cX12_isUser 0 = .ok (.iload_n 1, 1) := by decide +kernel
theorem dX12_isUser_1 : decode cX12_isUser 1 = .ok (.ifCond .lt 15, 3) := by decide +kernel
theorem dX12_isUser_4 : decode cX12_isUser 4 = .ok (.iload_n 1, 1) := by decide +kernel
theorem dX12_isUser_5 : decode cX12_isUser 5 = .ok (.aload_n 0, 1) := by decide +kernel
theorem dX12_isUser_6 : decode cX12_isUser 6 = .ok (.invokevirtual 199, 3) := by decide +kernel
theorem dX12_isUser_9 : decode cX12_isUser 9 = .ok (.if_icmp .ge 7, 3) := by decide +kernel
theorem dX12_isUser_12 : decode cX12_isUser 12 = .ok (.iconst 1, 1) := by decide +kernel
theorem dX12_isUser_13 : decode cX12_isUser 13 = .ok (.goto 4, 3) := by decide +kernel
theorem dX12_isUser_16 : decode cX12_isUser 16 = .ok (.iconst 0, 1) := by decide +kernel
theorem dX12_isUser_17 : decode cX12_isUser 17 = .ok (.ireturn, 1) := by decide +kernel
theorem dX12_findIn_0 : decode cX12_findIn 0 = .ok (.iconst 0, 1) := by decide +kernel
theorem dX12_findIn_1 : decode cX12_findIn 1 = .ok (.istore 4, 2) := by decide +kernel
theorem dX12_findIn_3 : decode cX12_findIn 3 = .ok (.iload 4, 2) := by decide +kernel
theorem dX12_findIn_5 : decode cX12_findIn 5 = .ok (.iload_n 3, 1) := by decide +kernel
theorem dX12_findIn_6 : decode cX12_findIn 6 = .ok (.if_icmp .ge 26, 3) := by decide +kernel
theorem dX12_findIn_9 : decode cX12_findIn 9 = .ok (.aload_n 1, 1) := by decide +kernel
theorem dX12_findIn_10 : decode cX12_findIn 10 = .ok (.iload_n 2, 1) := by decide +kernel
theorem dX12_findIn_11 : decode cX12_findIn 11 = .ok (.iload 4, 2) := by decide +kernel
theorem dX12_findIn_13 : decode cX12_findIn 13 = .ok (.iadd, 1) := by decide +kernel
theorem dX12_findIn_14 : decode cX12_findIn 14 = .ok (.laload, 1) := by decide +kernel
theorem dX12_findIn_15 : decode cX12_findIn 15 = .ok (.aload_n 0, 1) := by decide +kernel
theorem dX12_findIn_16 : decode cX12_findIn 16 = .ok (.getfield 126, 3) := by decide +kernel
theorem dX12_findIn_19 : decode cX12_findIn 19 = .ok (.lcmp, 1) := by decide +kernel
theorem dX12_findIn_20 : decode cX12_findIn 20 = .ok (.ifCond .ne 6, 3) := by decide +kernel
theorem dX12_findIn_23 : decode cX12_findIn 23 = .ok (.iload 4, 2) := by decide +kernel
theorem dX12_findIn_25 : decode cX12_findIn 25 = .ok (.ireturn, 1) := by decide +kernel
theorem dX12_findIn_26 : decode cX12_findIn 26 = .ok (.iinc 4 1, 3) := by decide +kernel
theorem dX12_findIn_29 : decode cX12_findIn 29 = .ok (.goto (-26), 3) := by decide +kernel
theorem dX12_findIn_32 : decode cX12_findIn 32 = .ok (.iconst (-1), 1) := by decide +kernel
theorem dX12_findIn_33 : decode cX12_findIn 33 = .ok (.ireturn, 1) := by decide +kernel
theorem dX12_isTold_0 : decode cX12_isTold 0 = .ok (.aload_n 0, 1) := by decide +kernel
theorem dX12_isTold_1 : decode cX12_isTold 1 = .ok (.aload_n 0, 1) := by decide +kernel
theorem dX12_isTold_2 : decode cX12_isTold 2 = .ok (.getfield 29, 3) := by decide +kernel
theorem dX12_isTold_5 : decode cX12_isTold 5 = .ok (.iconst 0, 1) := by decide +kernel
theorem dX12_isTold_6 : decode cX12_isTold 6 = .ok (.aload_n 0, 1) := by decide +kernel
theorem dX12_isTold_7 : decode cX12_isTold 7 = .ok (.getfield 16, 3) := by decide +kernel
theorem dX12_isTold_10 : decode cX12_isTold 10 = .ok (.iconst 0, 1) := by decide +kernel
theorem dX12_isTold_11 : decode cX12_isTold 11 = .ok (.iaload, 1) := by decide +kernel
theorem dX12_isTold_12 : decode cX12_isTold 12 = .ok (.invokevirtual 202, 3) := by decide +kernel
theorem dX12_isTold_15 : decode cX12_isTold 15 = .ok (.iconst (-1), 1) := by decide +kernel
theorem dX12_isTold_16 : decode cX12_isTold 16 = .ok (.if_icmp .ne 63, 3) := by decide +kernel
theorem dX12_isTold_19 : decode cX12_isTold 19 = .ok (.aload_n 0, 1) := by decide +kernel
theorem dX12_isTold_20 : decode cX12_isTold 20 = .ok (.aload_n 0, 1) := by decide +kernel
theorem dX12_isTold_21 : decode cX12_isTold 21 = .ok (.getfield 29, 3) := by decide +kernel
theorem dX12_isTold_24 : decode cX12_isTold 24 = .ok (.bipush 10, 2) := by decide +kernel
theorem dX12_isTold_26 : decode cX12_isTold 26 = .ok (.aload_n 0, 1) := by decide +kernel
theorem dX12_isTold_27 : decode cX12_isTold 27 = .ok (.getfield 16, 3) := by decide +kernel
theorem dX12_isTold_30 : decode cX12_isTold 30 = .ok (.iconst 1, 1) := by decide +kernel
theorem dX12_isTold_31 : decode cX12_isTold 31 = .ok (.iaload, 1) := by decide +kernel
theorem dX12_isTold_32 : decode cX12_isTold 32 = .ok (.invokevirtual 202, 3) := by decide +kernel
theorem dX12_isTold_35 : decode cX12_isTold 35 = .ok (.iconst (-1), 1) := by decide +kernel
theorem dX12_isTold_36 : decode cX12_isTold 36 = .ok (.if_icmp .ne 43, 3) := by decide +kernel
theorem dX12_isTold_39 : decode cX12_isTold 39 = .ok (.aload_n 0, 1) := by decide +kernel
theorem dX12_isTold_40 : decode cX12_isTold 40 = .ok (.aload_n 0, 1) := by decide +kernel
theorem dX12_isTold_41 : decode cX12_isTold 41 = .ok (.getfield 29, 3) := by decide +kernel
theorem dX12_isTold_44 : decode cX12_isTold 44 = .ok (.bipush 14, 2) := by decide +kernel
theorem dX12_isTold_46 : decode cX12_isTold 46 = .ok (.aload_n 0, 1) := by decide +kernel
theorem dX12_isTold_47 : decode cX12_isTold 47 = .ok (.getfield 16, 3) := by decide +kernel
theorem dX12_isTold_50 : decode cX12_isTold 50 = .ok (.iconst 2, 1) := by decide +kernel
theorem dX12_isTold_51 : decode cX12_isTold 51 = .ok (.iaload, 1) := by decide +kernel
theorem dX12_isTold_52 : decode cX12_isTold 52 = .ok (.invokevirtual 202, 3) := by decide +kernel
theorem dX12_isTold_55 : decode cX12_isTold 55 = .ok (.iconst (-1), 1) := by decide +kernel
theorem dX12_isTold_56 : decode cX12_isTold 56 = .ok (.if_icmp .ne 23, 3) := by decide +kernel
theorem dX12_isTold_59 : decode cX12_isTold 59 = .ok (.aload_n 0, 1) := by decide +kernel
theorem dX12_isTold_60 : decode cX12_isTold 60 = .ok (.aload_n 0, 1) := by decide +kernel
theorem dX12_isTold_61 : decode cX12_isTold 61 = .ok (.getfield 29, 3) := by decide +kernel
theorem dX12_isTold_64 : decode cX12_isTold 64 = .ok (.bipush 20, 2) := by decide +kernel
theorem dX12_isTold_66 : decode cX12_isTold 66 = .ok (.aload_n 0, 1) := by decide +kernel
theorem dX12_isTold_67 : decode cX12_isTold 67 = .ok (.getfield 16, 3) := by decide +kernel
theorem dX12_isTold_70 : decode cX12_isTold 70 = .ok (.iconst 3, 1) := by decide +kernel
theorem dX12_isTold_71 : decode cX12_isTold 71 = .ok (.iaload, 1) := by decide +kernel
theorem dX12_isTold_72 : decode cX12_isTold 72 = .ok (.invokevirtual 202, 3) := by decide +kernel
theorem dX12_isTold_75 : decode cX12_isTold 75 = .ok (.iconst (-1), 1) := by decide +kernel
theorem dX12_isTold_76 : decode cX12_isTold 76 = .ok (.if_icmp .eq 7, 3) := by decide +kernel
theorem dX12_isTold_79 : decode cX12_isTold 79 = .ok (.iconst 1, 1) := by decide +kernel
theorem dX12_isTold_80 : decode cX12_isTold 80 = .ok (.goto 4, 3) := by decide +kernel
theorem dX12_isTold_83 : decode cX12_isTold 83 = .ok (.iconst 0, 1) := by decide +kernel
theorem dX12_isTold_84 : decode cX12_isTold 84 = .ok (.ireturn, 1) := by decide +kernel
theorem dX12_readNew_0 : decode cX12_readNew 0 = .ok (.aload_n 0, 1) := by decide +kernel
theorem dX12_readNew_1 : decode cX12_readNew 1 = .ok (.invokevirtual 206, 3) := by decide +kernel
theorem dX12_readNew_4 : decode cX12_readNew 4 = .ok (.ifCond .ne 9, 3) := by decide +kernel
theorem dX12_readNew_7 : decode cX12_readNew 7 = .ok (.aload_n 0, 1) := by decide +kernel
theorem dX12_readNew_8 : decode cX12_readNew 8 = .ok (.iconst 1, 1) := by decide +kernel
theorem dX12_readNew_9 : decode cX12_readNew 9 = .ok (.invokevirtual 159, 3) := by decide +kernel
theorem dX12_readNew_12 : decode cX12_readNew 12 = .ok (.ireturn, 1) := by decide +kernel
theorem dX12_readNew_13 : decode cX12_readNew 13 = .ok (.aload_n 0, 1) := by decide +kernel
theorem dX12_readNew_14 : decode cX12_readNew 14 = .ok (.invokevirtual 210, 3) := by decide +kernel
theorem dX12_readNew_17 : decode cX12_readNew 17 = .ok (.ifCond .eq 9, 3) := by decide +kernel
theorem dX12_readNew_20 : decode cX12_readNew 20 = .ok (.aload_n 0, 1) := by decide +kernel
theorem dX12_readNew_21 : decode cX12_readNew 21 = .ok (.iconst 3, 1) := by decide +kernel
theorem dX12_readNew_22 : decode cX12_readNew 22 = .ok (.invokevirtual 159, 3) := by decide +kernel
theorem dX12_readNew_25 : decode cX12_readNew 25 = .ok (.ireturn, 1) := by decide +kernel
theorem dX12_readNew_26 : decode cX12_readNew 26 = .ok (.aload_n 0, 1) := by decide +kernel
theorem dX12_readNew_27 : decode cX12_readNew 27 = .ok (.getfield 29, 3) := by decide +kernel
theorem dX12_readNew_30 : decode cX12_readNew 30 = .ok (.iload_n 1, 1) := by decide +kernel
theorem dX12_readNew_31 : decode cX12_readNew 31 = .ok (.aload_n 0, 1) := by decide +kernel
theorem dX12_readNew_32 : decode cX12_readNew 32 = .ok (.getfield 126, 3) := by decide +kernel
theorem dX12_readNew_35 : decode cX12_readNew 35 = .ok (.lastore, 1) := by decide +kernel
theorem dX12_readNew_36 : decode cX12_readNew 36 = .ok (.aload_n 0, 1) := by decide +kernel
theorem dX12_readNew_37 : decode cX12_readNew 37 = .ok (.invokevirtual 169, 3) := by decide +kernel
theorem dX12_readNew_40 : decode cX12_readNew 40 = .ok (.iconst 1, 1) := by decide +kernel
theorem dX12_readNew_41 : decode cX12_readNew 41 = .ok (.ireturn, 1) := by decide +kernel
theorem dX12_readReach_0 : decode cX12_readReach 0 = .ok (.aload_n 0, 1) := by decide +kernel
theorem dX12_readReach_1 : decode cX12_readReach 1 = .ok (.getfield 16, 3) := by decide +kernel
theorem dX12_readReach_4 : decode cX12_readReach 4 = .ok (.iconst 0, 1) := by decide +kernel
theorem dX12_readReach_5 : decode cX12_readReach 5 = .ok (.iaload, 1) := by decide +kernel
theorem dX12_readReach_6 : decode cX12_readReach 6 = .ok (.istore_n 1, 1) := by decide +kernel
theorem dX12_readReach_7 : decode cX12_readReach 7 = .ok (.iload_n 1, 1) := by decide +kernel
theorem dX12_readReach_8 : decode cX12_readReach 8 = .ok (.bipush 10, 2) := by decide +kernel
theorem dX12_readReach_10 : decode cX12_readReach 10 = .ok (.if_icmp .ne 9, 3) := by decide +kernel
theorem dX12_readReach_13 : decode cX12_readReach 13 = .ok (.aload_n 0, 1) := by decide +kernel
theorem dX12_readReach_14 : decode cX12_readReach 14 = .ok (.iconst 4, 1) := by decide +kernel
theorem dX12_readReach_15 : decode cX12_readReach 15 = .ok (.invokevirtual 159, 3) := by decide +kernel
theorem dX12_readReach_18 : decode cX12_readReach 18 = .ok (.ireturn, 1) := by decide +kernel
theorem dX12_readReach_19 : decode cX12_readReach 19 = .ok (.aload_n 0, 1) := by decide +kernel
theorem dX12_readReach_20 : decode cX12_readReach 20 = .ok (.invokevirtual 169, 3) := by decide +kernel
theorem dX12_readReach_23 : decode cX12_readReach 23 = .ok (.aload_n 0, 1) := by decide +kernel
theorem dX12_readReach_24 : decode cX12_readReach 24 = .ok (.iconst 0, 1) := by decide +kernel
theorem dX12_readReach_25 : decode cX12_readReach 25 = .ok (.iload_n 1, 1) := by decide +kernel
theorem dX12_readReach_26 : decode cX12_readReach 26 = .ok (.iadd, 1) := by decide +kernel
theorem dX12_readReach_27 : decode cX12_readReach 27 = .ok (.invokevirtual 213, 3) := by decide +kernel
theorem dX12_readReach_30 : decode cX12_readReach 30 = .ok (.ifCond .eq 14, 3) := by decide +kernel
theorem dX12_readReach_33 : decode cX12_readReach 33 = .ok (.aload_n 0, 1) := by decide +kernel
theorem dX12_readReach_34 : decode cX12_readReach 34 = .ok (.iconst 1, 1) := by decide +kernel
theorem dX12_readReach_35 : decode cX12_readReach 35 = .ok (.sipush 9999, 3) := by decide +kernel
theorem dX12_readReach_38 : decode cX12_readReach 38 = .ok (.invokevirtual 216, 3) := by decide +kernel
theorem dX12_readReach_41 : decode cX12_readReach 41 = .ok (.ifCond .ne 5, 3) := by decide +kernel
theorem dX12_readReach_44 : decode cX12_readReach 44 = .ok (.iconst 0, 1) := by decide +kernel
theorem dX12_readReach_45 : decode cX12_readReach 45 = .ok (.ireturn, 1) := by decide +kernel
theorem dX12_readReach_46 : decode cX12_readReach 46 = .ok (.aload_n 0, 1) := by decide +kernel
theorem dX12_readReach_47 : decode cX12_readReach 47 = .ok (.getfield 16, 3) := by decide +kernel
theorem dX12_readReach_50 : decode cX12_readReach 50 = .ok (.bipush 10, 2) := by decide +kernel
theorem dX12_readReach_52 : decode cX12_readReach 52 = .ok (.iconst 2, 1) := by decide +kernel
theorem dX12_readReach_53 : decode cX12_readReach 53 = .ok (.iload_n 1, 1) := by decide +kernel
theorem dX12_readReach_54 : decode cX12_readReach 54 = .ok (.imul, 1) := by decide +kernel
theorem dX12_readReach_55 : decode cX12_readReach 55 = .ok (.iadd, 1) := by decide +kernel
theorem dX12_readReach_56 : decode cX12_readReach 56 = .ok (.aload_n 0, 1) := by decide +kernel
theorem dX12_readReach_57 : decode cX12_readReach 57 = .ok (.getfield 166, 3) := by decide +kernel
theorem dX12_readReach_60 : decode cX12_readReach 60 = .ok (.iastore, 1) := by decide +kernel
theorem dX12_readReach_61 : decode cX12_readReach 61 = .ok (.aload_n 0, 1) := by decide +kernel
theorem dX12_readReach_62 : decode cX12_readReach 62 = .ok (.iconst 0, 1) := by decide +kernel
theorem dX12_readReach_63 : decode cX12_readReach 63 = .ok (.sipush 500, 3) := by decide +kernel
theorem dX12_readReach_66 : decode cX12_readReach 66 = .ok (.invokevirtual 216, 3) := by decide +kernel
theorem dX12_readReach_69 : decode cX12_readReach 69 = .ok (.ifCond .ne 5, 3) := by decide +kernel
theorem dX12_readReach_72 : decode cX12_readReach 72 = .ok (.iconst 0, 1) := by decide +kernel
theorem dX12_readReach_73 : decode cX12_readReach 73 = .ok (.ireturn, 1) := by decide +kernel
theorem dX12_readReach_74 : decode cX12_readReach 74 = .ok (.aload_n 0, 1) := by decide +kernel
theorem dX12_readReach_75 : decode cX12_readReach 75 = .ok (.getfield 16, 3) := by decide +kernel
theorem dX12_readReach_78 : decode cX12_readReach 78 = .ok (.bipush 10, 2) := by decide +kernel
theorem dX12_readReach_80 : decode cX12_readReach 80 = .ok (.iconst 2, 1) := by decide +kernel
theorem dX12_readReach_81 : decode cX12_readReach 81 = .ok (.iload_n 1, 1) := by decide +kernel
theorem dX12_readReach_82 : decode cX12_readReach 82 = .ok (.imul, 1) := by decide +kernel
theorem dX12_readReach_83 : decode cX12_readReach 83 = .ok (.iadd, 1) := by decide +kernel
theorem dX12_readReach_84 : decode cX12_readReach 84 = .ok (.iconst 1, 1) := by decide +kernel
theorem dX12_readReach_85 : decode cX12_readReach 85 = .ok (.iadd, 1) := by decide +kernel
theorem dX12_readReach_86 : decode cX12_readReach 86 = .ok (.aload_n 0, 1) := by decide +kernel
theorem dX12_readReach_87 : decode cX12_readReach 87 = .ok (.getfield 166, 3) := by decide +kernel
theorem dX12_readReach_90 : decode cX12_readReach 90 = .ok (.iastore, 1) := by decide +kernel
theorem dX12_readReach_91 : decode cX12_readReach 91 = .ok (.aload_n 0, 1) := by decide +kernel
theorem dX12_readReach_92 : decode cX12_readReach 92 = .ok (.getfield 16, 3) := by decide +kernel
theorem dX12_readReach_95 : decode cX12_readReach 95 = .ok (.iconst 0, 1) := by decide +kernel
theorem dX12_readReach_96 : decode cX12_readReach 96 = .ok (.dup2, 1) := by decide +kernel
theorem dX12_readReach_97 : decode cX12_readReach 97 = .ok (.iaload, 1) := by decide +kernel
theorem dX12_readReach_98 : decode cX12_readReach 98 = .ok (.iconst 1, 1) := by decide +kernel
theorem dX12_readReach_99 : decode cX12_readReach 99 = .ok (.iadd, 1) := by decide +kernel
theorem dX12_readReach_100 : decode cX12_readReach 100 = .ok (.iastore, 1) := by decide +kernel
theorem dX12_readReach_101 : decode cX12_readReach 101 = .ok (.iconst 1, 1) := by decide +kernel
theorem dX12_readReach_102 : decode cX12_readReach 102 = .ok (.ireturn, 1) := by decide +kernel
theorem dX12_readColour_0 : decode cX12_readColour 0 = .ok (.aload_n 0, 1) := by decide +kernel
theorem dX12_readColour_1 : decode cX12_readColour 1 = .ok (.getfield 16, 3) := by decide +kernel
theorem dX12_readColour_4 : decode cX12_readColour 4 = .ok (.iconst 1, 1) := by decide +kernel
theorem dX12_readColour_5 : decode cX12_readColour 5 = .ok (.iaload, 1) := by decide +kernel
theorem dX12_readColour_6 : decode cX12_readColour 6 = .ok (.istore_n 1, 1) := by decide +kernel
theorem dX12_readColour_7 : decode cX12_readColour 7 = .ok (.iload_n 1, 1) := by decide +kernel
theorem dX12_readColour_8 : decode cX12_readColour 8 = .ok (.iconst 4, 1) := by decide +kernel
theorem dX12_readColour_9 : decode cX12_readColour 9 = .ok (.if_icmp .ne 9, 3) := by decide +kernel
theorem dX12_readColour_12 : decode cX12_readColour 12 = .ok (.aload_n 0, 1) := by decide +kernel
theorem dX12_readColour_13 : decode cX12_readColour 13 = .ok (.iconst 4, 1) := by decide +kernel
theorem dX12_readColour_14 : decode cX12_readColour 14 = .ok (.invokevirtual 159, 3) := by decide +kernel
theorem dX12_readColour_17 : decode cX12_readColour 17 = .ok (.ireturn, 1) := by decide +kernel
theorem dX12_readColour_18 : decode cX12_readColour 18 = .ok (.aload_n 0, 1) := by decide +kernel
theorem dX12_readColour_19 : decode cX12_readColour 19 = .ok (.invokevirtual 169, 3) := by decide +kernel
theorem dX12_readColour_22 : decode cX12_readColour 22 = .ok (.aload_n 0, 1) := by decide +kernel
theorem dX12_readColour_23 : decode cX12_readColour 23 = .ok (.bipush 10, 2) := by decide +kernel
theorem dX12_readColour_25 : decode cX12_readColour 25 = .ok (.iload_n 1, 1) := by decide +kernel
theorem dX12_readColour_26 : decode cX12_readColour 26 = .ok (.iadd, 1) := by decide +kernel
theorem dX12_readColour_27 : decode cX12_readColour 27 = .ok (.invokevirtual 213, 3) := by decide +kernel
theorem dX12_readColour_30 : decode cX12_readColour 30 = .ok (.ifCond .ne 5, 3) := by decide +kernel
theorem dX12_readColour_33 : decode cX12_readColour 33 = .ok (.iconst 0, 1) := by decide +kernel
theorem dX12_readColour_34 : decode cX12_readColour 34 = .ok (.ireturn, 1) := by decide +kernel
theorem dX12_readColour_35 : decode cX12_readColour 35 = .ok (.aload_n 0, 1) := by decide +kernel
theorem dX12_readColour_36 : decode cX12_readColour 36 = .ok (.getfield 16, 3) := by decide +kernel
theorem dX12_readColour_39 : decode cX12_readColour 39 = .ok (.iconst 1, 1) := by decide +kernel
theorem dX12_readColour_40 : decode cX12_readColour 40 = .ok (.dup2, 1) := by decide +kernel
theorem dX12_readColour_41 : decode cX12_readColour 41 = .ok (.iaload, 1) := by decide +kernel
theorem dX12_readColour_42 : decode cX12_readColour 42 = .ok (.iconst 1, 1) := by decide +kernel
theorem dX12_readColour_43 : decode cX12_readColour 43 = .ok (.iadd, 1) := by decide +kernel
theorem dX12_readColour_44 : decode cX12_readColour 44 = .ok (.iastore, 1) := by decide +kernel
theorem dX12_readColour_45 : decode cX12_readColour 45 = .ok (.iconst 1, 1) := by decide +kernel
theorem dX12_readColour_46 : decode cX12_readColour 46 = .ok (.ireturn, 1) := by decide +kernel
theorem dX12_readReachTold_0 : decode cX12_readReachTold 0 = .ok (.aload_n 0, 1) := by decide +kernel
theorem dX12_readReachTold_1 : decode cX12_readReachTold 1 = .ok (.invokevirtual 206, 3) := by decide +kernel
theorem dX12_readReachTold_4 : decode cX12_readReachTold 4 = .ok (.ifCond .ne 9, 3) := by decide +kernel
theorem dX12_readReachTold_7 : decode cX12_readReachTold 7 = .ok (.aload_n 0, 1) := by decide +kernel
theorem dX12_readReachTold_8 : decode cX12_readReachTold 8 = .ok (.iconst 1, 1) := by decide +kernel
theorem dX12_readReachTold_9 : decode cX12_readReachTold 9 = .ok (.invokevirtual 159, 3) := by decide +kernel
theorem dX12_readReachTold_12 : decode cX12_readReachTold 12 = .ok (.ireturn, 1) := by decide +kernel
theorem dX12_readReachTold_13 : decode cX12_readReachTold 13 = .ok (.aload_n 0, 1) := by decide +kernel
theorem dX12_readReachTold_14 : decode cX12_readReachTold 14 = .ok (.aload_n 0, 1) := by decide +kernel
theorem dX12_readReachTold_15 : decode cX12_readReachTold 15 = .ok (.getfield 29, 3) := by decide +kernel
theorem dX12_readReachTold_18 : decode cX12_readReachTold 18 = .ok (.iconst 0, 1) := by decide +kernel
theorem dX12_readReachTold_19 : decode cX12_readReachTold 19 = .ok (.aload_n 0, 1) := by decide +kernel
theorem dX12_readReachTold_20 : decode cX12_readReachTold 20 = .ok (.getfield 16, 3) := by decide +kernel
theorem dX12_readReachTold_23 : decode cX12_readReachTold 23 = .ok (.iconst 0, 1) := by decide +kernel
theorem dX12_readReachTold_24 : decode cX12_readReachTold 24 = .ok (.iaload, 1) := by decide +kernel
theorem dX12_readReachTold_25 : decode cX12_readReachTold 25 = .ok (.invokevirtual 202, 3) := by decide +kernel
theorem dX12_readReachTold_28 : decode cX12_readReachTold 28 = .ok (.istore_n 1, 1) := by decide +kernel
theorem dX12_readReachTold_29 : decode cX12_readReachTold 29 = .ok (.iload_n 1, 1) := by decide +kernel
theorem dX12_readReachTold_30 : decode cX12_readReachTold 30 = .ok (.iconst (-1), 1) := by decide +kernel
theorem dX12_readReachTold_31 : decode cX12_readReachTold 31 = .ok (.if_icmp .ne 9, 3) := by decide +kernel
theorem dX12_readReachTold_34 : decode cX12_readReachTold 34 = .ok (.aload_n 0, 1) := by decide +kernel
theorem dX12_readReachTold_35 : decode cX12_readReachTold 35 = .ok (.iconst 3, 1) := by decide +kernel
theorem dX12_readReachTold_36 : decode cX12_readReachTold 36 = .ok (.invokevirtual 159, 3) := by decide +kernel
theorem dX12_readReachTold_39 : decode cX12_readReachTold 39 = .ok (.ireturn, 1) := by decide +kernel
theorem dX12_readReachTold_40 : decode cX12_readReachTold 40 = .ok (.aload_n 0, 1) := by decide +kernel
theorem dX12_readReachTold_41 : decode cX12_readReachTold 41 = .ok (.iload_n 1, 1) := by decide +kernel
theorem dX12_readReachTold_42 : decode cX12_readReachTold 42 = .ok (.putfield 166, 3) := by decide +kernel
theorem dX12_readReachTold_45 : decode cX12_readReachTold 45 = .ok (.aload_n 0, 1) := by decide +kernel
theorem dX12_readReachTold_46 : decode cX12_readReachTold 46 = .ok (.invokevirtual 169, 3) := by decide +kernel
theorem dX12_readReachTold_49 : decode cX12_readReachTold 49 = .ok (.iconst 1, 1) := by decide +kernel
theorem dX12_readReachTold_50 : decode cX12_readReachTold 50 = .ok (.ireturn, 1) := by decide +kernel
theorem dX12_readColourTold_0 : decode cX12_readColourTold 0 = .ok (.aload_n 0, 1) := by decide +kernel
theorem dX12_readColourTold_1 : decode cX12_readColourTold 1 = .ok (.invokevirtual 206, 3) := by decide +kernel
theorem dX12_readColourTold_4 : decode cX12_readColourTold 4 = .ok (.ifCond .ne 9, 3) := by decide +kernel
theorem dX12_readColourTold_7 : decode cX12_readColourTold 7 = .ok (.aload_n 0, 1) := by decide +kernel
theorem dX12_readColourTold_8 : decode cX12_readColourTold 8 = .ok (.iconst 1, 1) := by decide +kernel
theorem dX12_readColourTold_9 : decode cX12_readColourTold 9 = .ok (.invokevirtual 159, 3) := by decide +kernel
theorem dX12_readColourTold_12 : decode cX12_readColourTold 12 = .ok (.ireturn, 1) := by decide +kernel
theorem dX12_readColourTold_13 : decode cX12_readColourTold 13 = .ok (.aload_n 0, 1) := by decide +kernel
theorem dX12_readColourTold_14 : decode cX12_readColourTold 14 = .ok (.aload_n 0, 1) := by decide +kernel
theorem dX12_readColourTold_15 : decode cX12_readColourTold 15 = .ok (.getfield 29, 3) := by decide +kernel
theorem dX12_readColourTold_18 : decode cX12_readColourTold 18 = .ok (.bipush 10, 2) := by decide +kernel
theorem dX12_readColourTold_20 : decode cX12_readColourTold 20 = .ok (.aload_n 0, 1) := by decide +kernel
theorem dX12_readColourTold_21 : decode cX12_readColourTold 21 = .ok (.getfield 16, 3) := by decide +kernel
theorem dX12_readColourTold_24 : decode cX12_readColourTold 24 = .ok (.iconst 1, 1) := by decide +kernel
theorem dX12_readColourTold_25 : decode cX12_readColourTold 25 = .ok (.iaload, 1) := by decide +kernel
theorem dX12_readColourTold_26 : decode cX12_readColourTold 26 = .ok (.invokevirtual 202, 3) := by decide +kernel
theorem dX12_readColourTold_29 : decode cX12_readColourTold 29 = .ok (.istore_n 2, 1) := by decide +kernel
theorem dX12_readColourTold_30 : decode cX12_readColourTold 30 = .ok (.iload_n 2, 1) := by decide +kernel
theorem dX12_readColourTold_31 : decode cX12_readColourTold 31 = .ok (.iconst (-1), 1) := by decide +kernel
theorem dX12_readColourTold_32 : decode cX12_readColourTold 32 = .ok (.if_icmp .eq 11, 3) := by decide +kernel
theorem dX12_readColourTold_35 : decode cX12_readColourTold 35 = .ok (.iload_n 1, 1) := by decide +kernel
theorem dX12_readColourTold_36 : decode cX12_readColourTold 36 = .ok (.iload_n 2, 1) := by decide +kernel
theorem dX12_readColourTold_37 : decode cX12_readColourTold 37 = .ok (.invokestatic 220, 3) := by decide +kernel
theorem dX12_readColourTold_40 : decode cX12_readColourTold 40 = .ok (.ifCond .eq 9, 3) := by decide +kernel
theorem dX12_readColourTold_43 : decode cX12_readColourTold 43 = .ok (.aload_n 0, 1) := by decide +kernel
theorem dX12_readColourTold_44 : decode cX12_readColourTold 44 = .ok (.iconst 3, 1) := by decide +kernel
theorem dX12_readColourTold_45 : decode cX12_readColourTold 45 = .ok (.invokevirtual 159, 3) := by decide +kernel
theorem dX12_readColourTold_48 : decode cX12_readColourTold 48 = .ok (.ireturn, 1) := by decide +kernel
theorem dX12_readColourTold_49 : decode cX12_readColourTold 49 = .ok (.aload_n 0, 1) := by decide +kernel
theorem dX12_readColourTold_50 : decode cX12_readColourTold 50 = .ok (.iload_n 2, 1) := by decide +kernel
theorem dX12_readColourTold_51 : decode cX12_readColourTold 51 = .ok (.putfield 166, 3) := by decide +kernel
theorem dX12_readColourTold_54 : decode cX12_readColourTold 54 = .ok (.iconst 1, 1) := by decide +kernel
theorem dX12_readColourTold_55 : decode cX12_readColourTold 55 = .ok (.ireturn, 1) := by decide +kernel
theorem dX12_readGuild_0 : decode cX12_readGuild 0 = .ok (.aload_n 0, 1) := by decide +kernel
theorem dX12_readGuild_1 : decode cX12_readGuild 1 = .ok (.getfield 16, 3) := by decide +kernel
theorem dX12_readGuild_4 : decode cX12_readGuild 4 = .ok (.iconst 2, 1) := by decide +kernel
theorem dX12_readGuild_5 : decode cX12_readGuild 5 = .ok (.iaload, 1) := by decide +kernel
theorem dX12_readGuild_6 : decode cX12_readGuild 6 = .ok (.istore_n 1, 1) := by decide +kernel
theorem dX12_readGuild_7 : decode cX12_readGuild 7 = .ok (.iload_n 1, 1) := by decide +kernel
theorem dX12_readGuild_8 : decode cX12_readGuild 8 = .ok (.bipush 6, 2) := by decide +kernel
theorem dX12_readGuild_10 : decode cX12_readGuild 10 = .ok (.if_icmp .ne 9, 3) := by decide +kernel
theorem dX12_readGuild_13 : decode cX12_readGuild 13 = .ok (.aload_n 0, 1) := by decide +kernel
theorem dX12_readGuild_14 : decode cX12_readGuild 14 = .ok (.iconst 4, 1) := by decide +kernel
theorem dX12_readGuild_15 : decode cX12_readGuild 15 = .ok (.invokevirtual 159, 3) := by decide +kernel
theorem dX12_readGuild_18 : decode cX12_readGuild 18 = .ok (.ireturn, 1) := by decide +kernel
theorem dX12_readGuild_19 : decode cX12_readGuild 19 = .ok (.bipush 30, 2) := by decide +kernel
theorem dX12_readGuild_21 : decode cX12_readGuild 21 = .ok (.bipush 6, 2) := by decide +kernel
theorem dX12_readGuild_23 : decode cX12_readGuild 23 = .ok (.iload_n 1, 1) := by decide +kernel
theorem dX12_readGuild_24 : decode cX12_readGuild 24 = .ok (.imul, 1) := by decide +kernel
theorem dX12_readGuild_25 : decode cX12_readGuild 25 = .ok (.iadd, 1) := by decide +kernel
theorem dX12_readGuild_26 : decode cX12_readGuild 26 = .ok (.istore_n 2, 1) := by decide +kernel
theorem dX12_readGuild_27 : decode cX12_readGuild 27 = .ok (.aload_n 0, 1) := by decide +kernel
theorem dX12_readGuild_28 : decode cX12_readGuild 28 = .ok (.invokevirtual 169, 3) := by decide +kernel
theorem dX12_readGuild_31 : decode cX12_readGuild 31 = .ok (.aload_n 0, 1) := by decide +kernel
theorem dX12_readGuild_32 : decode cX12_readGuild 32 = .ok (.bipush 14, 2) := by decide +kernel
theorem dX12_readGuild_34 : decode cX12_readGuild 34 = .ok (.iload_n 1, 1) := by decide +kernel
theorem dX12_readGuild_35 : decode cX12_readGuild 35 = .ok (.iadd, 1) := by decide +kernel
theorem dX12_readGuild_36 : decode cX12_readGuild 36 = .ok (.invokevirtual 213, 3) := by decide +kernel
theorem dX12_readGuild_39 : decode cX12_readGuild 39 = .ok (.ifCond .eq 10, 3) := by decide +kernel
theorem dX12_readGuild_42 : decode cX12_readGuild 42 = .ok (.aload_n 0, 1) := by decide +kernel
theorem dX12_readGuild_43 : decode cX12_readGuild 43 = .ok (.invokevirtual 223, 3) := by decide +kernel
theorem dX12_readGuild_46 : decode cX12_readGuild 46 = .ok (.ifCond .ne 5, 3) := by decide +kernel
theorem dX12_readGuild_49 : decode cX12_readGuild 49 = .ok (.iconst 0, 1) := by decide +kernel
theorem dX12_readGuild_50 : decode cX12_readGuild 50 = .ok (.ireturn, 1) := by decide +kernel
theorem dX12_readGuild_51 : decode cX12_readGuild 51 = .ok (.aload_n 0, 1) := by decide +kernel
theorem dX12_readGuild_52 : decode cX12_readGuild 52 = .ok (.getfield 16, 3) := by decide +kernel
theorem dX12_readGuild_55 : decode cX12_readGuild 55 = .ok (.iload_n 2, 1) := by decide +kernel
theorem dX12_readGuild_56 : decode cX12_readGuild 56 = .ok (.aload_n 0, 1) := by decide +kernel
theorem dX12_readGuild_57 : decode cX12_readGuild 57 = .ok (.getfield 166, 3) := by decide +kernel
theorem dX12_readGuild_60 : decode cX12_readGuild 60 = .ok (.iastore, 1) := by decide +kernel
theorem dX12_readGuild_61 : decode cX12_readGuild 61 = .ok (.aload_n 0, 1) := by decide +kernel
theorem dX12_readGuild_62 : decode cX12_readGuild 62 = .ok (.iconst 1, 1) := by decide +kernel
theorem dX12_readGuild_63 : decode cX12_readGuild 63 = .ok (.bipush 24, 2) := by decide +kernel
theorem dX12_readGuild_65 : decode cX12_readGuild 65 = .ok (.invokevirtual 216, 3) := by decide +kernel
theorem dX12_readGuild_68 : decode cX12_readGuild 68 = .ok (.ifCond .ne 5, 3) := by decide +kernel
theorem dX12_readGuild_71 : decode cX12_readGuild 71 = .ok (.iconst 0, 1) := by decide +kernel
theorem dX12_readGuild_72 : decode cX12_readGuild 72 = .ok (.ireturn, 1) := by decide +kernel
theorem dX12_readGuild_73 : decode cX12_readGuild 73 = .ok (.aload_n 0, 1) := by decide +kernel
theorem dX12_readGuild_74 : decode cX12_readGuild 74 = .ok (.getfield 16, 3) := by decide +kernel
theorem dX12_readGuild_77 : decode cX12_readGuild 77 = .ok (.iload_n 2, 1) := by decide +kernel
theorem dX12_readGuild_78 : decode cX12_readGuild 78 = .ok (.iconst 1, 1) := by decide +kernel
theorem dX12_readGuild_79 : decode cX12_readGuild 79 = .ok (.iadd, 1) := by decide +kernel
theorem dX12_readGuild_80 : decode cX12_readGuild 80 = .ok (.aload_n 0, 1) := by decide +kernel
theorem dX12_readGuild_81 : decode cX12_readGuild 81 = .ok (.getfield 166, 3) := by decide +kernel
theorem dX12_readGuild_84 : decode cX12_readGuild 84 = .ok (.iastore, 1) := by decide +kernel
theorem dX12_readGuild_85 : decode cX12_readGuild 85 = .ok (.iconst 0, 1) := by decide +kernel
theorem dX12_readGuild_86 : decode cX12_readGuild 86 = .ok (.istore_n 3, 1) := by decide +kernel
theorem dX12_readGuild_87 : decode cX12_readGuild 87 = .ok (.iload_n 3, 1) := by decide +kernel
theorem dX12_readGuild_88 : decode cX12_readGuild 88 = .ok (.iconst 4, 1) := by decide +kernel
theorem dX12_readGuild_89 : decode cX12_readGuild 89 = .ok (.if_icmp .ge 20, 3) := by decide +kernel
theorem dX12_readGuild_92 : decode cX12_readGuild 92 = .ok (.aload_n 0, 1) := by decide +kernel
theorem dX12_readGuild_93 : decode cX12_readGuild 93 = .ok (.getfield 16, 3) := by decide +kernel
theorem dX12_readGuild_96 : decode cX12_readGuild 96 = .ok (.iload_n 2, 1) := by decide +kernel
theorem dX12_readGuild_97 : decode cX12_readGuild 97 = .ok (.iconst 2, 1) := by decide +kernel
theorem dX12_readGuild_98 : decode cX12_readGuild 98 = .ok (.iadd, 1) := by decide +kernel
theorem dX12_readGuild_99 : decode cX12_readGuild 99 = .ok (.iload_n 3, 1) := by decide +kernel
theorem dX12_readGuild_100 : decode cX12_readGuild 100 = .ok (.iadd, 1) := by decide +kernel
theorem dX12_readGuild_101 : decode cX12_readGuild 101 = .ok (.iconst 0, 1) := by decide +kernel
theorem dX12_readGuild_102 : decode cX12_readGuild 102 = .ok (.iastore, 1) := by decide +kernel
theorem dX12_readGuild_103 : decode cX12_readGuild 103 = .ok (.iinc 3 1, 3) := by decide +kernel
theorem dX12_readGuild_106 : decode cX12_readGuild 106 = .ok (.goto (-19), 3) := by decide +kernel
theorem dX12_readGuild_109 : decode cX12_readGuild 109 = .ok (.iconst 0, 1) := by decide +kernel
theorem dX12_readGuild_110 : decode cX12_readGuild 110 = .ok (.istore_n 3, 1) := by decide +kernel
theorem dX12_readGuild_111 : decode cX12_readGuild 111 = .ok (.iload_n 3, 1) := by decide +kernel
theorem dX12_readGuild_112 : decode cX12_readGuild 112 = .ok (.ifCond .eq 11, 3) := by decide +kernel
theorem dX12_readGuild_115 : decode cX12_readGuild 115 = .ok (.aload_n 0, 1) := by decide +kernel
theorem dX12_readGuild_116 : decode cX12_readGuild 116 = .ok (.getfield 113, 3) := by decide +kernel
theorem dX12_readGuild_119 : decode cX12_readGuild 119 = .ok (.iconst 2, 1) := by decide +kernel
theorem dX12_readGuild_120 : decode cX12_readGuild 120 = .ok (.if_icmp .ne 61, 3) := by decide +kernel
theorem dX12_readGuild_123 : decode cX12_readGuild 123 = .ok (.aload_n 0, 1) := by decide +kernel
theorem dX12_readGuild_124 : decode cX12_readGuild 124 = .ok (.iload_n 3, 1) := by decide +kernel
theorem dX12_readGuild_125 : decode cX12_readGuild 125 = .ok (.invokevirtual 226, 3) := by decide +kernel
theorem dX12_readGuild_128 : decode cX12_readGuild 128 = .ok (.ifCond .ne 5, 3) := by decide +kernel
theorem dX12_readGuild_131 : decode cX12_readGuild 131 = .ok (.iconst 0, 1) := by decide +kernel
theorem dX12_readGuild_132 : decode cX12_readGuild 132 = .ok (.ireturn, 1) := by decide +kernel
theorem dX12_readGuild_133 : decode cX12_readGuild 133 = .ok (.aload_n 0, 1) := by decide +kernel
theorem dX12_readGuild_134 : decode cX12_readGuild 134 = .ok (.getfield 166, 3) := by decide +kernel
theorem dX12_readGuild_137 : decode cX12_readGuild 137 = .ok (.istore 4, 2) := by decide +kernel
theorem dX12_readGuild_139 : decode cX12_readGuild 139 = .ok (.iload_n 3, 1) := by decide +kernel
theorem dX12_readGuild_140 : decode cX12_readGuild 140 = .ok (.iconst 1, 1) := by decide +kernel
theorem dX12_readGuild_141 : decode cX12_readGuild 141 = .ok (.iload 4, 2) := by decide +kernel
theorem dX12_readGuild_143 : decode cX12_readGuild 143 = .ok (.ishl, 1) := by decide +kernel
theorem dX12_readGuild_144 : decode cX12_readGuild 144 = .ok (.ior, 1) := by decide +kernel
theorem dX12_readGuild_145 : decode cX12_readGuild 145 = .ok (.istore_n 3, 1) := by decide +kernel
theorem dX12_readGuild_146 : decode cX12_readGuild 146 = .ok (.aload_n 0, 1) := by decide +kernel
theorem dX12_readGuild_147 : decode cX12_readGuild 147 = .ok (.invokevirtual 169, 3) := by decide +kernel
theorem dX12_readGuild_150 : decode cX12_readGuild 150 = .ok (.aload_n 0, 1) := by decide +kernel
theorem dX12_readGuild_151 : decode cX12_readGuild 151 = .ok (.iconst 1, 1) := by decide +kernel
theorem dX12_readGuild_152 : decode cX12_readGuild 152 = .ok (.sipush 9999, 3) := by decide +kernel
theorem dX12_readGuild_155 : decode cX12_readGuild 155 = .ok (.invokevirtual 216, 3) := by decide +kernel
theorem dX12_readGuild_158 : decode cX12_readGuild 158 = .ok (.ifCond .ne 5, 3) := by decide +kernel
theorem dX12_readGuild_161 : decode cX12_readGuild 161 = .ok (.iconst 0, 1) := by decide +kernel
theorem dX12_readGuild_162 : decode cX12_readGuild 162 = .ok (.ireturn, 1) := by decide +kernel
theorem dX12_readGuild_163 : decode cX12_readGuild 163 = .ok (.aload_n 0, 1) := by decide +kernel
theorem dX12_readGuild_164 : decode cX12_readGuild 164 = .ok (.getfield 16, 3) := by decide +kernel
theorem dX12_readGuild_167 : decode cX12_readGuild 167 = .ok (.iload_n 2, 1) := by decide +kernel
theorem dX12_readGuild_168 : decode cX12_readGuild 168 = .ok (.iconst 2, 1) := by decide +kernel
theorem dX12_readGuild_169 : decode cX12_readGuild 169 = .ok (.iadd, 1) := by decide +kernel
theorem dX12_readGuild_170 : decode cX12_readGuild 170 = .ok (.iload 4, 2) := by decide +kernel
theorem dX12_readGuild_172 : decode cX12_readGuild 172 = .ok (.iadd, 1) := by decide +kernel
theorem dX12_readGuild_173 : decode cX12_readGuild 173 = .ok (.aload_n 0, 1) := by decide +kernel
theorem dX12_readGuild_174 : decode cX12_readGuild 174 = .ok (.getfield 166, 3) := by decide +kernel
theorem dX12_readGuild_177 : decode cX12_readGuild 177 = .ok (.iastore, 1) := by decide +kernel
theorem dX12_readGuild_178 : decode cX12_readGuild 178 = .ok (.goto (-67), 3) := by decide +kernel
theorem dX12_readGuild_181 : decode cX12_readGuild 181 = .ok (.aload_n 0, 1) := by decide +kernel
theorem dX12_readGuild_182 : decode cX12_readGuild 182 = .ok (.getfield 16, 3) := by decide +kernel
theorem dX12_readGuild_185 : decode cX12_readGuild 185 = .ok (.iconst 2, 1) := by decide +kernel
theorem dX12_readGuild_186 : decode cX12_readGuild 186 = .ok (.dup2, 1) := by decide +kernel
theorem dX12_readGuild_187 : decode cX12_readGuild 187 = .ok (.iaload, 1) := by decide +kernel
theorem dX12_readGuild_188 : decode cX12_readGuild 188 = .ok (.iconst 1, 1) := by decide +kernel
theorem dX12_readGuild_189 : decode cX12_readGuild 189 = .ok (.iadd, 1) := by decide +kernel
theorem dX12_readGuild_190 : decode cX12_readGuild 190 = .ok (.iastore, 1) := by decide +kernel
theorem dX12_readGuild_191 : decode cX12_readGuild 191 = .ok (.iconst 1, 1) := by decide +kernel
theorem dX12_readGuild_192 : decode cX12_readGuild 192 = .ok (.ireturn, 1) := by decide +kernel
theorem dX12_readUser_0 : decode cX12_readUser 0 = .ok (.aload_n 0, 1) := by decide +kernel
theorem dX12_readUser_1 : decode cX12_readUser 1 = .ok (.getfield 16, 3) := by decide +kernel
theorem dX12_readUser_4 : decode cX12_readUser 4 = .ok (.iconst 3, 1) := by decide +kernel
theorem dX12_readUser_5 : decode cX12_readUser 5 = .ok (.iaload, 1) := by decide +kernel
theorem dX12_readUser_6 : decode cX12_readUser 6 = .ok (.istore_n 1, 1) := by decide +kernel
theorem dX12_readUser_7 : decode cX12_readUser 7 = .ok (.iload_n 1, 1) := by decide +kernel
theorem dX12_readUser_8 : decode cX12_readUser 8 = .ok (.bipush 6, 2) := by decide +kernel
theorem dX12_readUser_10 : decode cX12_readUser 10 = .ok (.if_icmp .ne 9, 3) := by decide +kernel
theorem dX12_readUser_13 : decode cX12_readUser 13 = .ok (.aload_n 0, 1) := by decide +kernel
theorem dX12_readUser_14 : decode cX12_readUser 14 = .ok (.iconst 4, 1) := by decide +kernel
theorem dX12_readUser_15 : decode cX12_readUser 15 = .ok (.invokevirtual 159, 3) := by decide +kernel
theorem dX12_readUser_18 : decode cX12_readUser 18 = .ok (.ireturn, 1) := by decide +kernel
theorem dX12_readUser_19 : decode cX12_readUser 19 = .ok (.bipush 66, 2) := by decide +kernel
theorem dX12_readUser_21 : decode cX12_readUser 21 = .ok (.bipush 7, 2) := by decide +kernel
theorem dX12_readUser_23 : decode cX12_readUser 23 = .ok (.iload_n 1, 1) := by decide +kernel
theorem dX12_readUser_24 : decode cX12_readUser 24 = .ok (.imul, 1) := by decide +kernel
theorem dX12_readUser_25 : decode cX12_readUser 25 = .ok (.iadd, 1) := by decide +kernel
theorem dX12_readUser_26 : decode cX12_readUser 26 = .ok (.istore_n 2, 1) := by decide +kernel
theorem dX12_readUser_27 : decode cX12_readUser 27 = .ok (.aload_n 0, 1) := by decide +kernel
theorem dX12_readUser_28 : decode cX12_readUser 28 = .ok (.invokevirtual 169, 3) := by decide +kernel
theorem dX12_readUser_31 : decode cX12_readUser 31 = .ok (.aload_n 0, 1) := by decide +kernel
theorem dX12_readUser_32 : decode cX12_readUser 32 = .ok (.bipush 20, 2) := by decide +kernel
theorem dX12_readUser_34 : decode cX12_readUser 34 = .ok (.iload_n 1, 1) := by decide +kernel
theorem dX12_readUser_35 : decode cX12_readUser 35 = .ok (.iadd, 1) := by decide +kernel
theorem dX12_readUser_36 : decode cX12_readUser 36 = .ok (.invokevirtual 213, 3) := by decide +kernel
theorem dX12_readUser_39 : decode cX12_readUser 39 = .ok (.ifCond .eq 10, 3) := by decide +kernel
theorem dX12_readUser_42 : decode cX12_readUser 42 = .ok (.aload_n 0, 1) := by decide +kernel
theorem dX12_readUser_43 : decode cX12_readUser 43 = .ok (.invokevirtual 223, 3) := by decide +kernel
theorem dX12_readUser_46 : decode cX12_readUser 46 = .ok (.ifCond .ne 5, 3) := by decide +kernel
theorem dX12_readUser_49 : decode cX12_readUser 49 = .ok (.iconst 0, 1) := by decide +kernel
theorem dX12_readUser_50 : decode cX12_readUser 50 = .ok (.ireturn, 1) := by decide +kernel
theorem dX12_readUser_51 : decode cX12_readUser 51 = .ok (.aload_n 0, 1) := by decide +kernel
theorem dX12_readUser_52 : decode cX12_readUser 52 = .ok (.getfield 16, 3) := by decide +kernel
theorem dX12_readUser_55 : decode cX12_readUser 55 = .ok (.iload_n 2, 1) := by decide +kernel
theorem dX12_readUser_56 : decode cX12_readUser 56 = .ok (.aload_n 0, 1) := by decide +kernel
theorem dX12_readUser_57 : decode cX12_readUser 57 = .ok (.getfield 166, 3) := by decide +kernel
theorem dX12_readUser_60 : decode cX12_readUser 60 = .ok (.iastore, 1) := by decide +kernel
theorem dX12_readUser_61 : decode cX12_readUser 61 = .ok (.aload_n 0, 1) := by decide +kernel
theorem dX12_readUser_62 : decode cX12_readUser 62 = .ok (.iconst 0, 1) := by decide +kernel
theorem dX12_readUser_63 : decode cX12_readUser 63 = .ok (.bipush 23, 2) := by decide +kernel
theorem dX12_readUser_65 : decode cX12_readUser 65 = .ok (.invokevirtual 216, 3) := by decide +kernel
theorem dX12_readUser_68 : decode cX12_readUser 68 = .ok (.ifCond .ne 5, 3) := by decide +kernel
theorem dX12_readUser_71 : decode cX12_readUser 71 = .ok (.iconst 0, 1) := by decide +kernel
theorem dX12_readUser_72 : decode cX12_readUser 72 = .ok (.ireturn, 1) := by decide +kernel
theorem dX12_readUser_73 : decode cX12_readUser 73 = .ok (.aload_n 0, 1) := by decide +kernel
theorem dX12_readUser_74 : decode cX12_readUser 74 = .ok (.getfield 16, 3) := by decide +kernel
theorem dX12_readUser_77 : decode cX12_readUser 77 = .ok (.iload_n 2, 1) := by decide +kernel
theorem dX12_readUser_78 : decode cX12_readUser 78 = .ok (.iconst 1, 1) := by decide +kernel
theorem dX12_readUser_79 : decode cX12_readUser 79 = .ok (.iadd, 1) := by decide +kernel
theorem dX12_readUser_80 : decode cX12_readUser 80 = .ok (.aload_n 0, 1) := by decide +kernel
theorem dX12_readUser_81 : decode cX12_readUser 81 = .ok (.getfield 166, 3) := by decide +kernel
theorem dX12_readUser_84 : decode cX12_readUser 84 = .ok (.iastore, 1) := by decide +kernel
theorem dX12_readUser_85 : decode cX12_readUser 85 = .ok (.aload_n 0, 1) := by decide +kernel
theorem dX12_readUser_86 : decode cX12_readUser 86 = .ok (.aload_n 0, 1) := by decide +kernel
theorem dX12_readUser_87 : decode cX12_readUser 87 = .ok (.getfield 166, 3) := by decide +kernel
theorem dX12_readUser_90 : decode cX12_readUser 90 = .ok (.iconst 1, 1) := by decide +kernel
theorem dX12_readUser_91 : decode cX12_readUser 91 = .ok (.iadd, 1) := by decide +kernel
theorem dX12_readUser_92 : decode cX12_readUser 92 = .ok (.bipush 24, 2) := by decide +kernel
theorem dX12_readUser_94 : decode cX12_readUser 94 = .ok (.invokevirtual 216, 3) := by decide +kernel
theorem dX12_readUser_97 : decode cX12_readUser 97 = .ok (.ifCond .ne 5, 3) := by decide +kernel
theorem dX12_readUser_100 : decode cX12_readUser 100 = .ok (.iconst 0, 1) := by decide +kernel
theorem dX12_readUser_101 : decode cX12_readUser 101 = .ok (.ireturn, 1) := by decide +kernel
theorem dX12_readUser_102 : decode cX12_readUser 102 = .ok (.aload_n 0, 1) := by decide +kernel
theorem dX12_readUser_103 : decode cX12_readUser 103 = .ok (.getfield 16, 3) := by decide +kernel
theorem dX12_readUser_106 : decode cX12_readUser 106 = .ok (.iload_n 2, 1) := by decide +kernel
theorem dX12_readUser_107 : decode cX12_readUser 107 = .ok (.iconst 2, 1) := by decide +kernel
theorem dX12_readUser_108 : decode cX12_readUser 108 = .ok (.iadd, 1) := by decide +kernel
theorem dX12_readUser_109 : decode cX12_readUser 109 = .ok (.aload_n 0, 1) := by decide +kernel
theorem dX12_readUser_110 : decode cX12_readUser 110 = .ok (.getfield 166, 3) := by decide +kernel
theorem dX12_readUser_113 : decode cX12_readUser 113 = .ok (.iastore, 1) := by decide +kernel
theorem dX12_readUser_114 : decode cX12_readUser 114 = .ok (.iconst 0, 1) := by decide +kernel
theorem dX12_readUser_115 : decode cX12_readUser 115 = .ok (.istore_n 3, 1) := by decide +kernel
theorem dX12_readUser_116 : decode cX12_readUser 116 = .ok (.iload_n 3, 1) := by decide +kernel
theorem dX12_readUser_117 : decode cX12_readUser 117 = .ok (.iconst 4, 1) := by decide +kernel
theorem dX12_readUser_118 : decode cX12_readUser 118 = .ok (.if_icmp .ge 20, 3) := by decide +kernel
theorem dX12_readUser_121 : decode cX12_readUser 121 = .ok (.aload_n 0, 1) := by decide +kernel
theorem dX12_readUser_122 : decode cX12_readUser 122 = .ok (.getfield 16, 3) := by decide +kernel
theorem dX12_readUser_125 : decode cX12_readUser 125 = .ok (.iload_n 2, 1) := by decide +kernel
theorem dX12_readUser_126 : decode cX12_readUser 126 = .ok (.iconst 3, 1) := by decide +kernel
theorem dX12_readUser_127 : decode cX12_readUser 127 = .ok (.iadd, 1) := by decide +kernel
theorem dX12_readUser_128 : decode cX12_readUser 128 = .ok (.iload_n 3, 1) := by decide +kernel
theorem dX12_readUser_129 : decode cX12_readUser 129 = .ok (.iadd, 1) := by decide +kernel
theorem dX12_readUser_130 : decode cX12_readUser 130 = .ok (.iconst (-1), 1) := by decide +kernel
theorem dX12_readUser_131 : decode cX12_readUser 131 = .ok (.iastore, 1) := by decide +kernel
theorem dX12_readUser_132 : decode cX12_readUser 132 = .ok (.iinc 3 1, 3) := by decide +kernel
theorem dX12_readUser_135 : decode cX12_readUser 135 = .ok (.goto (-19), 3) := by decide +kernel
theorem dX12_readUser_138 : decode cX12_readUser 138 = .ok (.iconst 0, 1) := by decide +kernel
theorem dX12_readUser_139 : decode cX12_readUser 139 = .ok (.istore_n 3, 1) := by decide +kernel
theorem dX12_readUser_140 : decode cX12_readUser 140 = .ok (.aload_n 0, 1) := by decide +kernel
theorem dX12_readUser_141 : decode cX12_readUser 141 = .ok (.getfield 113, 3) := by decide +kernel
theorem dX12_readUser_144 : decode cX12_readUser 144 = .ok (.iconst 2, 1) := by decide +kernel
theorem dX12_readUser_145 : decode cX12_readUser 145 = .ok (.if_icmp .ne 61, 3) := by decide +kernel
theorem dX12_readUser_148 : decode cX12_readUser 148 = .ok (.aload_n 0, 1) := by decide +kernel
theorem dX12_readUser_149 : decode cX12_readUser 149 = .ok (.iload_n 3, 1) := by decide +kernel
theorem dX12_readUser_150 : decode cX12_readUser 150 = .ok (.invokevirtual 226, 3) := by decide +kernel
theorem dX12_readUser_153 : decode cX12_readUser 153 = .ok (.ifCond .ne 5, 3) := by decide +kernel
theorem dX12_readUser_156 : decode cX12_readUser 156 = .ok (.iconst 0, 1) := by decide +kernel
theorem dX12_readUser_157 : decode cX12_readUser 157 = .ok (.ireturn, 1) := by decide +kernel
theorem dX12_readUser_158 : decode cX12_readUser 158 = .ok (.aload_n 0, 1) := by decide +kernel
theorem dX12_readUser_159 : decode cX12_readUser 159 = .ok (.getfield 166, 3) := by decide +kernel
theorem dX12_readUser_162 : decode cX12_readUser 162 = .ok (.istore 4, 2) := by decide +kernel
theorem dX12_readUser_164 : decode cX12_readUser 164 = .ok (.iload_n 3, 1) := by decide +kernel
theorem dX12_readUser_165 : decode cX12_readUser 165 = .ok (.iconst 1, 1) := by decide +kernel
theorem dX12_readUser_166 : decode cX12_readUser 166 = .ok (.iload 4, 2) := by decide +kernel
theorem dX12_readUser_168 : decode cX12_readUser 168 = .ok (.ishl, 1) := by decide +kernel
theorem dX12_readUser_169 : decode cX12_readUser 169 = .ok (.ior, 1) := by decide +kernel
theorem dX12_readUser_170 : decode cX12_readUser 170 = .ok (.istore_n 3, 1) := by decide +kernel
theorem dX12_readUser_171 : decode cX12_readUser 171 = .ok (.aload_n 0, 1) := by decide +kernel
theorem dX12_readUser_172 : decode cX12_readUser 172 = .ok (.invokevirtual 169, 3) := by decide +kernel
theorem dX12_readUser_175 : decode cX12_readUser 175 = .ok (.aload_n 0, 1) := by decide +kernel
theorem dX12_readUser_176 : decode cX12_readUser 176 = .ok (.iconst 0, 1) := by decide +kernel
theorem dX12_readUser_177 : decode cX12_readUser 177 = .ok (.sipush 9999, 3) := by decide +kernel
theorem dX12_readUser_180 : decode cX12_readUser 180 = .ok (.invokevirtual 216, 3) := by decide +kernel
theorem dX12_readUser_183 : decode cX12_readUser 183 = .ok (.ifCond .ne 5, 3) := by decide +kernel
theorem dX12_readUser_186 : decode cX12_readUser 186 = .ok (.iconst 0, 1) := by decide +kernel
theorem dX12_readUser_187 : decode cX12_readUser 187 = .ok (.ireturn, 1) := by decide +kernel
theorem dX12_readUser_188 : decode cX12_readUser 188 = .ok (.aload_n 0, 1) := by decide +kernel
theorem dX12_readUser_189 : decode cX12_readUser 189 = .ok (.getfield 16, 3) := by decide +kernel
theorem dX12_readUser_192 : decode cX12_readUser 192 = .ok (.iload_n 2, 1) := by decide +kernel
theorem dX12_readUser_193 : decode cX12_readUser 193 = .ok (.iconst 3, 1) := by decide +kernel
theorem dX12_readUser_194 : decode cX12_readUser 194 = .ok (.iadd, 1) := by decide +kernel
theorem dX12_readUser_195 : decode cX12_readUser 195 = .ok (.iload 4, 2) := by decide +kernel
theorem dX12_readUser_197 : decode cX12_readUser 197 = .ok (.iadd, 1) := by decide +kernel
theorem dX12_readUser_198 : decode cX12_readUser 198 = .ok (.aload_n 0, 1) := by decide +kernel
theorem dX12_readUser_199 : decode cX12_readUser 199 = .ok (.getfield 166, 3) := by decide +kernel
theorem dX12_readUser_202 : decode cX12_readUser 202 = .ok (.iastore, 1) := by decide +kernel
theorem dX12_readUser_203 : decode cX12_readUser 203 = .ok (.goto (-63), 3) := by decide +kernel
theorem dX12_readUser_206 : decode cX12_readUser 206 = .ok (.aload_n 0, 1) := by decide +kernel
theorem dX12_readUser_207 : decode cX12_readUser 207 = .ok (.getfield 16, 3) := by decide +kernel
theorem dX12_readUser_210 : decode cX12_readUser 210 = .ok (.iconst 3, 1) := by decide +kernel
theorem dX12_readUser_211 : decode cX12_readUser 211 = .ok (.dup2, 1) := by decide +kernel
theorem dX12_readUser_212 : decode cX12_readUser 212 = .ok (.iaload, 1) := by decide +kernel
theorem dX12_readUser_213 : decode cX12_readUser 213 = .ok (.iconst 1, 1) := by decide +kernel
theorem dX12_readUser_214 : decode cX12_readUser 214 = .ok (.iadd, 1) := by decide +kernel
theorem dX12_readUser_215 : decode cX12_readUser 215 = .ok (.iastore, 1) := by decide +kernel
theorem dX12_readUser_216 : decode cX12_readUser 216 = .ok (.iconst 1, 1) := by decide +kernel
theorem dX12_readUser_217 : decode cX12_readUser 217 = .ok (.ireturn, 1) := by decide +kernel
theorem dX12_readFlow_0 : decode cX12_readFlow 0 = .ok (.aload_n 0, 1) := by decide +kernel
theorem dX12_readFlow_1 : decode cX12_readFlow 1 = .ok (.invokevirtual 169, 3) := by decide +kernel
theorem dX12_readFlow_4 : decode cX12_readFlow 4 = .ok (.aload_n 0, 1) := by decide +kernel
theorem dX12_readFlow_5 : decode cX12_readFlow 5 = .ok (.getfield 113, 3) := by decide +kernel
theorem dX12_readFlow_8 : decode cX12_readFlow 8 = .ok (.iconst 3, 1) := by decide +kernel
theorem dX12_readFlow_9 : decode cX12_readFlow 9 = .ok (.if_icmp .eq 9, 3) := by decide +kernel
theorem dX12_readFlow_12 : decode cX12_readFlow 12 = .ok (.aload_n 0, 1) := by decide +kernel
theorem dX12_readFlow_13 : decode cX12_readFlow 13 = .ok (.iconst 1, 1) := by decide +kernel
theorem dX12_readFlow_14 : decode cX12_readFlow 14 = .ok (.invokevirtual 159, 3) := by decide +kernel
theorem dX12_readFlow_17 : decode cX12_readFlow 17 = .ok (.ireturn, 1) := by decide +kernel
theorem dX12_readFlow_18 : decode cX12_readFlow 18 = .ok (.aload_n 0, 1) := by decide +kernel
theorem dX12_readFlow_19 : decode cX12_readFlow 19 = .ok (.getfield 130, 3) := by decide +kernel
theorem dX12_readFlow_22 : decode cX12_readFlow 22 = .ok (.bipush 6, 2) := by decide +kernel
theorem dX12_readFlow_24 : decode cX12_readFlow 24 = .ok (.if_icmp .le 9, 3) := by decide +kernel
theorem dX12_readFlow_27 : decode cX12_readFlow 27 = .ok (.aload_n 0, 1) := by decide +kernel
theorem dX12_readFlow_28 : decode cX12_readFlow 28 = .ok (.iconst 2, 1) := by decide +kernel
theorem dX12_readFlow_29 : decode cX12_readFlow 29 = .ok (.invokevirtual 159, 3) := by decide +kernel
theorem dX12_readFlow_32 : decode cX12_readFlow 32 = .ok (.ireturn, 1) := by decide +kernel
theorem dX12_readFlow_33 : decode cX12_readFlow 33 = .ok (.aload_n 0, 1) := by decide +kernel
theorem dX12_readFlow_34 : decode cX12_readFlow 34 = .ok (.getfield 229, 3) := by decide +kernel
theorem dX12_readFlow_37 : decode cX12_readFlow 37 = .ok (.aload_n 0, 1) := by decide +kernel
theorem dX12_readFlow_38 : decode cX12_readFlow 38 = .ok (.getfield 130, 3) := by decide +kernel
theorem dX12_readFlow_41 : decode cX12_readFlow 41 = .ok (.invokestatic 220, 3) := by decide +kernel
theorem dX12_readFlow_44 : decode cX12_readFlow 44 = .ok (.ifCond .eq 9, 3) := by decide +kernel
theorem dX12_readFlow_47 : decode cX12_readFlow 47 = .ok (.aload_n 0, 1) := by decide +kernel
theorem dX12_readFlow_48 : decode cX12_readFlow 48 = .ok (.iconst 3, 1) := by decide +kernel
theorem dX12_readFlow_49 : decode cX12_readFlow 49 = .ok (.invokevirtual 159, 3) := by decide +kernel
theorem dX12_readFlow_52 : decode cX12_readFlow 52 = .ok (.ireturn, 1) := by decide +kernel
theorem dX12_readFlow_53 : decode cX12_readFlow 53 = .ok (.aload_n 0, 1) := by decide +kernel
theorem dX12_readFlow_54 : decode cX12_readFlow 54 = .ok (.dup, 1) := by decide +kernel
theorem dX12_readFlow_55 : decode cX12_readFlow 55 = .ok (.getfield 229, 3) := by decide +kernel
theorem dX12_readFlow_58 : decode cX12_readFlow 58 = .ok (.iconst 1, 1) := by decide +kernel
theorem dX12_readFlow_59 : decode cX12_readFlow 59 = .ok (.aload_n 0, 1) := by decide +kernel
theorem dX12_readFlow_60 : decode cX12_readFlow 60 = .ok (.getfield 130, 3) := by decide +kernel
theorem dX12_readFlow_63 : decode cX12_readFlow 63 = .ok (.ishl, 1) := by decide +kernel
theorem dX12_readFlow_64 : decode cX12_readFlow 64 = .ok (.ior, 1) := by decide +kernel
theorem dX12_readFlow_65 : decode cX12_readFlow 65 = .ok (.putfield 229, 3) := by decide +kernel
theorem dX12_readFlow_68 : decode cX12_readFlow 68 = .ok (.aload_n 0, 1) := by decide +kernel
theorem dX12_readFlow_69 : decode cX12_readFlow 69 = .ok (.getfield 130, 3) := by decide +kernel
theorem dX12_readFlow_72 : decode cX12_readFlow 72 = .ok (.istore_n 1, 1) := by decide +kernel
theorem dX12_readFlow_73 : decode cX12_readFlow 73 = .ok (.aload_n 0, 1) := by decide +kernel
theorem dX12_readFlow_74 : decode cX12_readFlow 74 = .ok (.invokevirtual 169, 3) := by decide +kernel
theorem dX12_readFlow_77 : decode cX12_readFlow 77 = .ok (.aload_n 0, 1) := by decide +kernel
theorem dX12_readFlow_78 : decode cX12_readFlow 78 = .ok (.iconst 0, 1) := by decide +kernel
theorem dX12_readFlow_79 : decode cX12_readFlow 79 = .ok (.sipush 9999, 3) := by decide +kernel
theorem dX12_readFlow_82 : decode cX12_readFlow 82 = .ok (.invokevirtual 216, 3) := by decide +kernel
theorem dX12_readFlow_85 : decode cX12_readFlow 85 = .ok (.ifCond .ne 5, 3) := by decide +kernel
theorem dX12_readFlow_88 : decode cX12_readFlow 88 = .ok (.iconst 0, 1) := by decide +kernel
theorem dX12_readFlow_89 : decode cX12_readFlow 89 = .ok (.ireturn, 1) := by decide +kernel
theorem dX12_readFlow_90 : decode cX12_readFlow 90 = .ok (.aload_n 0, 1) := by decide +kernel
theorem dX12_readFlow_91 : decode cX12_readFlow 91 = .ok (.getfield 16, 3) := by decide +kernel
theorem dX12_readFlow_94 : decode cX12_readFlow 94 = .ok (.bipush 110, 2) := by decide +kernel
theorem dX12_readFlow_96 : decode cX12_readFlow 96 = .ok (.iload_n 1, 1) := by decide +kernel
theorem dX12_readFlow_97 : decode cX12_readFlow 97 = .ok (.iadd, 1) := by decide +kernel
theorem dX12_readFlow_98 : decode cX12_readFlow 98 = .ok (.aload_n 0, 1) := by decide +kernel
theorem dX12_readFlow_99 : decode cX12_readFlow 99 = .ok (.getfield 166, 3) := by decide +kernel
theorem dX12_readFlow_102 : decode cX12_readFlow 102 = .ok (.iastore, 1) := by decide +kernel
theorem dX12_readFlow_103 : decode cX12_readFlow 103 = .ok (.iconst 1, 1) := by decide +kernel
theorem dX12_readFlow_104 : decode cX12_readFlow 104 = .ok (.ireturn, 1) := by decide +kernel
theorem dX12_readFlood_0 : decode cX12_readFlood 0 = .ok (.aload_n 0, 1) := by decide +kernel
theorem dX12_readFlood_1 : decode cX12_readFlood 1 = .ok (.getfield 232, 3) := by decide +kernel
theorem dX12_readFlood_4 : decode cX12_readFlood 4 = .ok (.ifCond .eq 9, 3) := by decide +kernel
theorem dX12_readFlood_7 : decode cX12_readFlood 7 = .ok (.aload_n 0, 1) := by decide +kernel
theorem dX12_readFlood_8 : decode cX12_readFlood 8 = .ok (.iconst 3, 1) := by decide +kernel
theorem dX12_readFlood_9 : decode cX12_readFlood 9 = .ok (.invokevirtual 159, 3) := by decide +kernel
theorem dX12_readFlood_12 : decode cX12_readFlood 12 = .ok (.ireturn, 1) := by decide +kernel
theorem dX12_readFlood_13 : decode cX12_readFlood 13 = .ok (.aload_n 0, 1) := by decide +kernel
theorem dX12_readFlood_14 : decode cX12_readFlood 14 = .ok (.iconst 1, 1) := by decide +kernel
theorem dX12_readFlood_15 : decode cX12_readFlood 15 = .ok (.putfield 232, 3) := by decide +kernel
theorem dX12_readFlood_18 : decode cX12_readFlood 18 = .ok (.aload_n 0, 1) := by decide +kernel
theorem dX12_readFlood_19 : decode cX12_readFlood 19 = .ok (.invokevirtual 169, 3) := by decide +kernel
theorem dX12_readFlood_22 : decode cX12_readFlood 22 = .ok (.aload_n 0, 1) := by decide +kernel
theorem dX12_readFlood_23 : decode cX12_readFlood 23 = .ok (.iconst 1, 1) := by decide +kernel
theorem dX12_readFlood_24 : decode cX12_readFlood 24 = .ok (.sipush 9999, 3) := by decide +kernel
theorem dX12_readFlood_27 : decode cX12_readFlood 27 = .ok (.invokevirtual 216, 3) := by decide +kernel
theorem dX12_readFlood_30 : decode cX12_readFlood 30 = .ok (.ifCond .ne 5, 3) := by decide +kernel
theorem dX12_readFlood_33 : decode cX12_readFlood 33 = .ok (.iconst 0, 1) := by decide +kernel
theorem dX12_readFlood_34 : decode cX12_readFlood 34 = .ok (.ireturn, 1) := by decide +kernel
theorem dX12_readFlood_35 : decode cX12_readFlood 35 = .ok (.aload_n 0, 1) := by decide +kernel
theorem dX12_readFlood_36 : decode cX12_readFlood 36 = .ok (.getfield 16, 3) := by decide +kernel
theorem dX12_readFlood_39 : decode cX12_readFlood 39 = .ok (.iconst 5, 1) := by decide +kernel
theorem dX12_readFlood_40 : decode cX12_readFlood 40 = .ok (.aload_n 0, 1) := by decide +kernel
theorem dX12_readFlood_41 : decode cX12_readFlood 41 = .ok (.getfield 166, 3) := by decide +kernel
theorem dX12_readFlood_44 : decode cX12_readFlood 44 = .ok (.iastore, 1) := by decide +kernel
theorem dX12_readFlood_45 : decode cX12_readFlood 45 = .ok (.iconst 1, 1) := by decide +kernel
theorem dX12_readFlood_46 : decode cX12_readFlood 46 = .ok (.ireturn, 1) := by decide +kernel
theorem dX12_readPebble_0 : decode cX12_readPebble 0 = .ok (.aload_n 0, 1) := by decide +kernel
theorem dX12_readPebble_1 : decode cX12_readPebble 1 = .ok (.getfield 16, 3) := by decide +kernel
theorem dX12_readPebble_4 : decode cX12_readPebble 4 = .ok (.iconst 4, 1) := by decide +kernel
theorem dX12_readPebble_5 : decode cX12_readPebble 5 = .ok (.iaload, 1) := by decide +kernel
theorem dX12_readPebble_6 : decode cX12_readPebble 6 = .ok (.istore_n 1, 1) := by decide +kernel
theorem dX12_readPebble_7 : decode cX12_readPebble 7 = .ok (.iload_n 1, 1) := by decide +kernel
theorem dX12_readPebble_8 : decode cX12_readPebble 8 = .ok (.bipush 12, 2) := by decide +kernel
theorem dX12_readPebble_10 : decode cX12_readPebble 10 = .ok (.if_icmp .ne 9, 3) := by decide +kernel
theorem dX12_readPebble_13 : decode cX12_readPebble 13 = .ok (.aload_n 0, 1) := by decide +kernel
theorem dX12_readPebble_14 : decode cX12_readPebble 14 = .ok (.iconst 4, 1) := by decide +kernel
theorem dX12_readPebble_15 : decode cX12_readPebble 15 = .ok (.invokevirtual 159, 3) := by decide +kernel
theorem dX12_readPebble_18 : decode cX12_readPebble 18 = .ok (.ireturn, 1) := by decide +kernel
theorem dX12_readPebble_19 : decode cX12_readPebble 19 = .ok (.aload_n 0, 1) := by decide +kernel
theorem dX12_readPebble_20 : decode cX12_readPebble 20 = .ok (.invokevirtual 169, 3) := by decide +kernel
theorem dX12_readPebble_23 : decode cX12_readPebble 23 = .ok (.aload_n 0, 1) := by decide +kernel
theorem dX12_readPebble_24 : decode cX12_readPebble 24 = .ok (.iconst 0, 1) := by decide +kernel
theorem dX12_readPebble_25 : decode cX12_readPebble 25 = .ok (.invokevirtual 226, 3) := by decide +kernel
theorem dX12_readPebble_28 : decode cX12_readPebble 28 = .ok (.ifCond .ne 5, 3) := by decide +kernel
theorem dX12_readPebble_31 : decode cX12_readPebble 31 = .ok (.iconst 0, 1) := by decide +kernel
theorem dX12_readPebble_32 : decode cX12_readPebble 32 = .ok (.ireturn, 1) := by decide +kernel
theorem dX12_readPebble_33 : decode cX12_readPebble 33 = .ok (.bipush 118, 2) := by decide +kernel
theorem dX12_readPebble_35 : decode cX12_readPebble 35 = .ok (.iconst 3, 1) := by decide +kernel
theorem dX12_readPebble_36 : decode cX12_readPebble 36 = .ok (.iload_n 1, 1) := by decide +kernel
theorem dX12_readPebble_37 : decode cX12_readPebble 37 = .ok (.imul, 1) := by decide +kernel
theorem dX12_readPebble_38 : decode cX12_readPebble 38 = .ok (.iadd, 1) := by decide +kernel
theorem dX12_readPebble_39 : decode cX12_readPebble 39 = .ok (.istore_n 2, 1) := by decide +kernel
theorem dX12_readPebble_40 : decode cX12_readPebble 40 = .ok (.aload_n 0, 1) := by decide +kernel
theorem dX12_readPebble_41 : decode cX12_readPebble 41 = .ok (.getfield 16, 3) := by decide +kernel
theorem dX12_readPebble_44 : decode cX12_readPebble 44 = .ok (.iload_n 2, 1) := by decide +kernel
theorem dX12_readPebble_45 : decode cX12_readPebble 45 = .ok (.aload_n 0, 1) := by decide +kernel
theorem dX12_readPebble_46 : decode cX12_readPebble 46 = .ok (.getfield 166, 3) := by decide +kernel
theorem dX12_readPebble_49 : decode cX12_readPebble 49 = .ok (.iastore, 1) := by decide +kernel
theorem dX12_readPebble_50 : decode cX12_readPebble 50 = .ok (.aload_n 0, 1) := by decide +kernel
theorem dX12_readPebble_51 : decode cX12_readPebble 51 = .ok (.invokevirtual 169, 3) := by decide +kernel
theorem dX12_readPebble_54 : decode cX12_readPebble 54 = .ok (.aload_n 0, 1) := by decide +kernel
theorem dX12_readPebble_55 : decode cX12_readPebble 55 = .ok (.getfield 113, 3) := by decide +kernel
theorem dX12_readPebble_58 : decode cX12_readPebble 58 = .ok (.iconst 3, 1) := by decide +kernel
theorem dX12_readPebble_59 : decode cX12_readPebble 59 = .ok (.if_icmp .eq 9, 3) := by decide +kernel
theorem dX12_readPebble_62 : decode cX12_readPebble 62 = .ok (.aload_n 0, 1) := by decide +kernel
theorem dX12_readPebble_63 : decode cX12_readPebble 63 = .ok (.iconst 1, 1) := by decide +kernel
theorem dX12_readPebble_64 : decode cX12_readPebble 64 = .ok (.invokevirtual 159, 3) := by decide +kernel
theorem dX12_readPebble_67 : decode cX12_readPebble 67 = .ok (.ireturn, 1) := by decide +kernel
theorem dX12_readPebble_68 : decode cX12_readPebble 68 = .ok (.aload_n 0, 1) := by decide +kernel
theorem dX12_readPebble_69 : decode cX12_readPebble 69 = .ok (.getfield 130, 3) := by decide +kernel
theorem dX12_readPebble_72 : decode cX12_readPebble 72 = .ok (.iconst 1, 1) := by decide +kernel
theorem dX12_readPebble_73 : decode cX12_readPebble 73 = .ok (.sipush 9999, 3) := by decide +kernel
theorem dX12_readPebble_76 : decode cX12_readPebble 76 = .ok (.invokestatic 162, 3) := by decide +kernel
theorem dX12_readPebble_79 : decode cX12_readPebble 79 = .ok (.ifCond .ne 9, 3) := by decide +kernel
theorem dX12_readPebble_82 : decode cX12_readPebble 82 = .ok (.aload_n 0, 1) := by decide +kernel
theorem dX12_readPebble_83 : decode cX12_readPebble 83 = .ok (.iconst 2, 1) := by decide +kernel
theorem dX12_readPebble_84 : decode cX12_readPebble 84 = .ok (.invokevirtual 159, 3) := by decide +kernel
theorem dX12_readPebble_87 : decode cX12_readPebble 87 = .ok (.ireturn, 1) := by decide +kernel
theorem dX12_readPebble_88 : decode cX12_readPebble 88 = .ok (.iconst 0, 1) := by decide +kernel
theorem dX12_readPebble_89 : decode cX12_readPebble 89 = .ok (.istore_n 3, 1) := by decide +kernel
theorem dX12_readPebble_90 : decode cX12_readPebble 90 = .ok (.iload_n 3, 1) := by decide +kernel
theorem dX12_readPebble_91 : decode cX12_readPebble 91 = .ok (.iload_n 1, 1) := by decide +kernel
theorem dX12_readPebble_92 : decode cX12_readPebble 92 = .ok (.if_icmp .ge 55, 3) := by decide +kernel
theorem dX12_readPebble_95 : decode cX12_readPebble 95 = .ok (.aload_n 0, 1) := by decide +kernel
theorem dX12_readPebble_96 : decode cX12_readPebble 96 = .ok (.getfield 16, 3) := by decide +kernel
theorem dX12_readPebble_99 : decode cX12_readPebble 99 = .ok (.bipush 118, 2) := by decide +kernel
theorem dX12_readPebble_101 : decode cX12_readPebble 101 = .ok (.iconst 3, 1) := by decide +kernel
theorem dX12_readPebble_102 : decode cX12_readPebble 102 = .ok (.iload_n 3, 1) := by decide +kernel
theorem dX12_readPebble_103 : decode cX12_readPebble 103 = .ok (.imul, 1) := by decide +kernel
theorem dX12_readPebble_104 : decode cX12_readPebble 104 = .ok (.iadd, 1) := by decide +kernel
theorem dX12_readPebble_105 : decode cX12_readPebble 105 = .ok (.iaload, 1) := by decide +kernel
theorem dX12_readPebble_106 : decode cX12_readPebble 106 = .ok (.aload_n 0, 1) := by decide +kernel
theorem dX12_readPebble_107 : decode cX12_readPebble 107 = .ok (.getfield 16, 3) := by decide +kernel
theorem dX12_readPebble_110 : decode cX12_readPebble 110 = .ok (.iload_n 2, 1) := by decide +kernel
theorem dX12_readPebble_111 : decode cX12_readPebble 111 = .ok (.iaload, 1) := by decide +kernel
theorem dX12_readPebble_112 : decode cX12_readPebble 112 = .ok (.if_icmp .ne 29, 3) := by decide +kernel
theorem dX12_readPebble_115 : decode cX12_readPebble 115 = .ok (.aload_n 0, 1) := by decide +kernel
theorem dX12_readPebble_116 : decode cX12_readPebble 116 = .ok (.getfield 16, 3) := by decide +kernel
theorem dX12_readPebble_119 : decode cX12_readPebble 119 = .ok (.bipush 118, 2) := by decide +kernel
theorem dX12_readPebble_121 : decode cX12_readPebble 121 = .ok (.iconst 3, 1) := by decide +kernel
theorem dX12_readPebble_122 : decode cX12_readPebble 122 = .ok (.iload_n 3, 1) := by decide +kernel
theorem dX12_readPebble_123 : decode cX12_readPebble 123 = .ok (.imul, 1) := by decide +kernel
theorem dX12_readPebble_124 : decode cX12_readPebble 124 = .ok (.iadd, 1) := by decide +kernel
theorem dX12_readPebble_125 : decode cX12_readPebble 125 = .ok (.iconst 1, 1) := by decide +kernel
theorem dX12_readPebble_126 : decode cX12_readPebble 126 = .ok (.iadd, 1) := by decide +kernel
theorem dX12_readPebble_127 : decode cX12_readPebble 127 = .ok (.iaload, 1) := by decide +kernel
theorem dX12_readPebble_128 : decode cX12_readPebble 128 = .ok (.aload_n 0, 1) := by decide +kernel
theorem dX12_readPebble_129 : decode cX12_readPebble 129 = .ok (.getfield 130, 3) := by decide +kernel
theorem dX12_readPebble_132 : decode cX12_readPebble 132 = .ok (.if_icmp .ne 9, 3) := by decide +kernel
theorem dX12_readPebble_135 : decode cX12_readPebble 135 = .ok (.aload_n 0, 1) := by decide +kernel
theorem dX12_readPebble_136 : decode cX12_readPebble 136 = .ok (.iconst 3, 1) := by decide +kernel
theorem dX12_readPebble_137 : decode cX12_readPebble 137 = .ok (.invokevirtual 159, 3) := by decide +kernel
theorem dX12_readPebble_140 : decode cX12_readPebble 140 = .ok (.ireturn, 1) := by decide +kernel
theorem dX12_readPebble_141 : decode cX12_readPebble 141 = .ok (.iinc 3 1, 3) := by decide +kernel
theorem dX12_readPebble_144 : decode cX12_readPebble 144 = .ok (.goto (-54), 3) := by decide +kernel
theorem dX12_readPebble_147 : decode cX12_readPebble 147 = .ok (.aload_n 0, 1) := by decide +kernel
theorem dX12_readPebble_148 : decode cX12_readPebble 148 = .ok (.getfield 16, 3) := by decide +kernel
theorem dX12_readPebble_151 : decode cX12_readPebble 151 = .ok (.iload_n 2, 1) := by decide +kernel
theorem dX12_readPebble_152 : decode cX12_readPebble 152 = .ok (.iconst 1, 1) := by decide +kernel
theorem dX12_readPebble_153 : decode cX12_readPebble 153 = .ok (.iadd, 1) := by decide +kernel
theorem dX12_readPebble_154 : decode cX12_readPebble 154 = .ok (.aload_n 0, 1) := by decide +kernel
theorem dX12_readPebble_155 : decode cX12_readPebble 155 = .ok (.getfield 130, 3) := by decide +kernel
theorem dX12_readPebble_158 : decode cX12_readPebble 158 = .ok (.iastore, 1) := by decide +kernel
theorem dX12_readPebble_159 : decode cX12_readPebble 159 = .ok (.aload_n 0, 1) := by decide +kernel
theorem dX12_readPebble_160 : decode cX12_readPebble 160 = .ok (.invokevirtual 169, 3) := by decide +kernel
theorem dX12_readPebble_163 : decode cX12_readPebble 163 = .ok (.aload_n 0, 1) := by decide +kernel
theorem dX12_readPebble_164 : decode cX12_readPebble 164 = .ok (.iconst 0, 1) := by decide +kernel
theorem dX12_readPebble_165 : decode cX12_readPebble 165 = .ok (.sipush 999, 3) := by decide +kernel
theorem dX12_readPebble_168 : decode cX12_readPebble 168 = .ok (.invokevirtual 216, 3) := by decide +kernel
theorem dX12_readPebble_171 : decode cX12_readPebble 171 = .ok (.ifCond .ne 5, 3) := by decide +kernel
theorem dX12_readPebble_174 : decode cX12_readPebble 174 = .ok (.iconst 0, 1) := by decide +kernel
theorem dX12_readPebble_175 : decode cX12_readPebble 175 = .ok (.ireturn, 1) := by decide +kernel
theorem dX12_readPebble_176 : decode cX12_readPebble 176 = .ok (.aload_n 0, 1) := by decide +kernel
theorem dX12_readPebble_177 : decode cX12_readPebble 177 = .ok (.getfield 16, 3) := by decide +kernel
theorem dX12_readPebble_180 : decode cX12_readPebble 180 = .ok (.iload_n 2, 1) := by decide +kernel
theorem dX12_readPebble_181 : decode cX12_readPebble 181 = .ok (.iconst 2, 1) := by decide +kernel
theorem dX12_readPebble_182 : decode cX12_readPebble 182 = .ok (.iadd, 1) := by decide +kernel
theorem dX12_readPebble_183 : decode cX12_readPebble 183 = .ok (.aload_n 0, 1) := by decide +kernel
theorem dX12_readPebble_184 : decode cX12_readPebble 184 = .ok (.getfield 166, 3) := by decide +kernel
theorem dX12_readPebble_187 : decode cX12_readPebble 187 = .ok (.iastore, 1) := by decide +kernel
theorem dX12_readPebble_188 : decode cX12_readPebble 188 = .ok (.aload_n 0, 1) := by decide +kernel
theorem dX12_readPebble_189 : decode cX12_readPebble 189 = .ok (.getfield 16, 3) := by decide +kernel
theorem dX12_readPebble_192 : decode cX12_readPebble 192 = .ok (.iconst 4, 1) := by decide +kernel
theorem dX12_readPebble_193 : decode cX12_readPebble 193 = .ok (.dup2, 1) := by decide +kernel
theorem dX12_readPebble_194 : decode cX12_readPebble 194 = .ok (.iaload, 1) := by decide +kernel
theorem dX12_readPebble_195 : decode cX12_readPebble 195 = .ok (.iconst 1, 1) := by decide +kernel
theorem dX12_readPebble_196 : decode cX12_readPebble 196 = .ok (.iadd, 1) := by decide +kernel
theorem dX12_readPebble_197 : decode cX12_readPebble 197 = .ok (.iastore, 1) := by decide +kernel
theorem dX12_readPebble_198 : decode cX12_readPebble 198 = .ok (.iconst 1, 1) := by decide +kernel
theorem dX12_readPebble_199 : decode cX12_readPebble 199 = .ok (.ireturn, 1) := by decide +kernel
theorem dX12_readLine_0 : decode cX12_readLine 0 = .ok (.iconst 0, 1) := by decide +kernel
theorem dX12_readLine_1 : decode cX12_readLine 1 = .ok (.istore_n 1, 1) := by decide +kernel
theorem dX12_readLine_2 : decode cX12_readLine 2 = .ok (.iload_n 1, 1) := by decide +kernel
theorem dX12_readLine_3 : decode cX12_readLine 3 = .ok (.bipush 6, 2) := by decide +kernel
theorem dX12_readLine_5 : decode cX12_readLine 5 = .ok (.if_icmp .gt 17, 3) := by decide +kernel
theorem dX12_readLine_8 : decode cX12_readLine 8 = .ok (.aload_n 0, 1) := by decide +kernel
theorem dX12_readLine_9 : decode cX12_readLine 9 = .ok (.iload_n 1, 1) := by decide +kernel
theorem dX12_readLine_10 : decode cX12_readLine 10 = .ok (.invokevirtual 235, 3) := by decide +kernel
theorem dX12_readLine_13 : decode cX12_readLine 13 = .ok (.ifCond .ne 9, 3) := by decide +kernel
theorem dX12_readLine_16 : decode cX12_readLine 16 = .ok (.iinc 1 1, 3) := by decide +kernel
theorem dX12_readLine_19 : decode cX12_readLine 19 = .ok (.goto (-17), 3) := by decide +kernel
theorem dX12_readLine_22 : decode cX12_readLine 22 = .ok (.iload_n 1, 1) := by decide +kernel
theorem dX12_readLine_23 : decode cX12_readLine 23 = .ok (.tableswitch 97 0 6 #[41, 49, 57, 65, 73, 81, 89], 41) := by decide +kernel
theorem dX12_readLine_64 : decode cX12_readLine 64 = .ok (.aload_n 0, 1) := by decide +kernel
theorem dX12_readLine_65 : decode cX12_readLine 65 = .ok (.invokevirtual 238, 3) := by decide +kernel
theorem dX12_readLine_68 : decode cX12_readLine 68 = .ok (.istore_n 2, 1) := by decide +kernel
theorem dX12_readLine_69 : decode cX12_readLine 69 = .ok (.goto 57, 3) := by decide +kernel
theorem dX12_readLine_72 : decode cX12_readLine 72 = .ok (.aload_n 0, 1) := by decide +kernel
theorem dX12_readLine_73 : decode cX12_readLine 73 = .ok (.invokevirtual 241, 3) := by decide +kernel
theorem dX12_readLine_76 : decode cX12_readLine 76 = .ok (.istore_n 2, 1) := by decide +kernel
theorem dX12_readLine_77 : decode cX12_readLine 77 = .ok (.goto 49, 3) := by decide +kernel
theorem dX12_readLine_80 : decode cX12_readLine 80 = .ok (.aload_n 0, 1) := by decide +kernel
theorem dX12_readLine_81 : decode cX12_readLine 81 = .ok (.invokevirtual 244, 3) := by decide +kernel
theorem dX12_readLine_84 : decode cX12_readLine 84 = .ok (.istore_n 2, 1) := by decide +kernel
theorem dX12_readLine_85 : decode cX12_readLine 85 = .ok (.goto 41, 3) := by decide +kernel
theorem dX12_readLine_88 : decode cX12_readLine 88 = .ok (.aload_n 0, 1) := by decide +kernel
theorem dX12_readLine_89 : decode cX12_readLine 89 = .ok (.invokevirtual 247, 3) := by decide +kernel
theorem dX12_readLine_92 : decode cX12_readLine 92 = .ok (.istore_n 2, 1) := by decide +kernel
theorem dX12_readLine_93 : decode cX12_readLine 93 = .ok (.goto 33, 3) := by decide +kernel
theorem dX12_readLine_96 : decode cX12_readLine 96 = .ok (.aload_n 0, 1) := by decide +kernel
theorem dX12_readLine_97 : decode cX12_readLine 97 = .ok (.invokevirtual 250, 3) := by decide +kernel
theorem dX12_readLine_100 : decode cX12_readLine 100 = .ok (.istore_n 2, 1) := by decide +kernel
theorem dX12_readLine_101 : decode cX12_readLine 101 = .ok (.goto 25, 3) := by decide +kernel
theorem dX12_readLine_104 : decode cX12_readLine 104 = .ok (.aload_n 0, 1) := by decide +kernel
theorem dX12_readLine_105 : decode cX12_readLine 105 = .ok (.invokevirtual 253, 3) := by decide +kernel
theorem dX12_readLine_108 : decode cX12_readLine 108 = .ok (.istore_n 2, 1) := by decide +kernel
theorem dX12_readLine_109 : decode cX12_readLine 109 = .ok (.goto 17, 3) := by decide +kernel
theorem dX12_readLine_112 : decode cX12_readLine 112 = .ok (.aload_n 0, 1) := by decide +kernel
theorem dX12_readLine_113 : decode cX12_readLine 113 = .ok (.invokevirtual 256, 3) := by decide +kernel
theorem dX12_readLine_116 : decode cX12_readLine 116 = .ok (.istore_n 2, 1) := by decide +kernel
theorem dX12_readLine_117 : decode cX12_readLine 117 = .ok (.goto 9, 3) := by decide +kernel
theorem dX12_readLine_120 : decode cX12_readLine 120 = .ok (.aload_n 0, 1) := by decide +kernel
theorem dX12_readLine_121 : decode cX12_readLine 121 = .ok (.iconst 1, 1) := by decide +kernel
theorem dX12_readLine_122 : decode cX12_readLine 122 = .ok (.invokevirtual 159, 3) := by decide +kernel
theorem dX12_readLine_125 : decode cX12_readLine 125 = .ok (.ireturn, 1) := by decide +kernel
theorem dX12_readLine_126 : decode cX12_readLine 126 = .ok (.iload_n 2, 1) := by decide +kernel
theorem dX12_readLine_127 : decode cX12_readLine 127 = .ok (.ifCond .eq 14, 3) := by decide +kernel
theorem dX12_readLine_130 : decode cX12_readLine 130 = .ok (.aload_n 0, 1) := by decide +kernel
theorem dX12_readLine_131 : decode cX12_readLine 131 = .ok (.invokevirtual 259, 3) := by decide +kernel
theorem dX12_readLine_134 : decode cX12_readLine 134 = .ok (.ifCond .eq 7, 3) := by decide +kernel
theorem dX12_readLine_137 : decode cX12_readLine 137 = .ok (.iconst 1, 1) := by decide +kernel
theorem dX12_readLine_138 : decode cX12_readLine 138 = .ok (.goto 4, 3) := by decide +kernel
theorem dX12_readLine_141 : decode cX12_readLine 141 = .ok (.iconst 0, 1) := by decide +kernel
theorem dX12_readLine_142 : decode cX12_readLine 142 = .ok (.ireturn, 1) := by decide +kernel
theorem dX12_river_0 : decode cX12_river 0 = .ok (.aload_n 0, 1) := by decide +kernel
theorem dX12_river_1 : decode cX12_river 1 = .ok (.sipush 900, 3) := by decide +kernel
theorem dX12_river_4 : decode cX12_river 4 = .ok (.invokevirtual 262, 3) := by decide +kernel
theorem dX12_river_7 : decode cX12_river 7 = .ok (.aload_n 0, 1) := by decide +kernel
theorem dX12_river_8 : decode cX12_river 8 = .ok (.getfield 16, 3) := by decide +kernel
theorem dX12_river_11 : decode cX12_river 11 = .ok (.invokestatic 186, 3) := by decide +kernel
theorem dX12_river_14 : decode cX12_river 14 = .ok (.aload_n 0, 1) := by decide +kernel
theorem dX12_river_15 : decode cX12_river 15 = .ok (.iconst 0, 1) := by decide +kernel
theorem dX12_river_16 : decode cX12_river 16 = .ok (.putfield 232, 3) := by decide +kernel
theorem dX12_river_19 : decode cX12_river 19 = .ok (.aload_n 0, 1) := by decide +kernel
theorem dX12_river_20 : decode cX12_river 20 = .ok (.iconst 0, 1) := by decide +kernel
theorem dX12_river_21 : decode cX12_river 21 = .ok (.putfield 229, 3) := by decide +kernel
theorem dX12_river_24 : decode cX12_river 24 = .ok (.iconst 0, 1) := by decide +kernel
theorem dX12_river_25 : decode cX12_river 25 = .ok (.istore_n 1, 1) := by decide +kernel
theorem dX12_river_26 : decode cX12_river 26 = .ok (.aload_n 0, 1) := by decide +kernel
theorem dX12_river_27 : decode cX12_river 27 = .ok (.getfield 113, 3) := by decide +kernel
theorem dX12_river_30 : decode cX12_river 30 = .ok (.ifCond .eq 23, 3) := by decide +kernel
theorem dX12_river_33 : decode cX12_river 33 = .ok (.aload_n 0, 1) := by decide +kernel
theorem dX12_river_34 : decode cX12_river 34 = .ok (.invokevirtual 265, 3) := by decide +kernel
theorem dX12_river_37 : decode cX12_river 37 = .ok (.ifCond .ne 10, 3) := by decide +kernel
theorem dX12_river_40 : decode cX12_river 40 = .ok (.iconst (-1), 1) := by decide +kernel
theorem dX12_river_41 : decode cX12_river 41 = .ok (.aload_n 0, 1) := by decide +kernel
theorem dX12_river_42 : decode cX12_river 42 = .ok (.getfield 156, 3) := by decide +kernel
theorem dX12_river_45 : decode cX12_river 45 = .ok (.isub, 1) := by decide +kernel
theorem dX12_river_46 : decode cX12_river 46 = .ok (.ireturn, 1) := by decide +kernel
theorem dX12_river_47 : decode cX12_river 47 = .ok (.iinc 1 1, 3) := by decide +kernel
theorem dX12_river_50 : decode cX12_river 50 = .ok (.goto (-24), 3) := by decide +kernel
theorem dX12_river_53 : decode cX12_river 53 = .ok (.iconst 0, 1) := by decide +kernel
theorem dX12_river_54 : decode cX12_river 54 = .ok (.istore_n 2, 1) := by decide +kernel
theorem dX12_river_55 : decode cX12_river 55 = .ok (.iload_n 2, 1) := by decide +kernel
theorem dX12_river_56 : decode cX12_river 56 = .ok (.sipush 160, 3) := by decide +kernel
theorem dX12_river_59 : decode cX12_river 59 = .ok (.if_icmp .ge 21, 3) := by decide +kernel
theorem dX12_river_62 : decode cX12_river 62 = .ok (.aload_n 0, 1) := by decide +kernel
theorem dX12_river_63 : decode cX12_river 63 = .ok (.getfield 13, 3) := by decide +kernel
theorem dX12_river_66 : decode cX12_river 66 = .ok (.iload_n 2, 1) := by decide +kernel
theorem dX12_river_67 : decode cX12_river 67 = .ok (.aload_n 0, 1) := by decide +kernel
theorem dX12_river_68 : decode cX12_river 68 = .ok (.getfield 16, 3) := by decide +kernel
theorem dX12_river_71 : decode cX12_river 71 = .ok (.iload_n 2, 1) := by decide +kernel
theorem dX12_river_72 : decode cX12_river 72 = .ok (.iaload, 1) := by decide +kernel
theorem dX12_river_73 : decode cX12_river 73 = .ok (.iastore, 1) := by decide +kernel
theorem dX12_river_74 : decode cX12_river 74 = .ok (.iinc 2 1, 3) := by decide +kernel
theorem dX12_river_77 : decode cX12_river 77 = .ok (.goto (-22), 3) := by decide +kernel
theorem dX12_river_80 : decode cX12_river 80 = .ok (.iconst 0, 1) := by decide +kernel
theorem dX12_river_81 : decode cX12_river 81 = .ok (.istore_n 2, 1) := by decide +kernel
theorem dX12_river_82 : decode cX12_river 82 = .ok (.iload_n 2, 1) := by decide +kernel
theorem dX12_river_83 : decode cX12_river 83 = .ok (.bipush 26, 2) := by decide +kernel
theorem dX12_river_85 : decode cX12_river 85 = .ok (.if_icmp .ge 21, 3) := by decide +kernel
theorem dX12_river_88 : decode cX12_river 88 = .ok (.aload_n 0, 1) := by decide +kernel
theorem dX12_river_89 : decode cX12_river 89 = .ok (.getfield 25, 3) := by decide +kernel
theorem dX12_river_92 : decode cX12_river 92 = .ok (.iload_n 2, 1) := by decide +kernel
theorem dX12_river_93 : decode cX12_river 93 = .ok (.aload_n 0, 1) := by decide +kernel
theorem dX12_river_94 : decode cX12_river 94 = .ok (.getfield 29, 3) := by decide +kernel
theorem dX12_river_97 : decode cX12_river 97 = .ok (.iload_n 2, 1) := by decide +kernel
theorem dX12_river_98 : decode cX12_river 98 = .ok (.laload, 1) := by decide +kernel
theorem dX12_river_99 : decode cX12_river 99 = .ok (.lastore, 1) := by decide +kernel
theorem dX12_river_100 : decode cX12_river 100 = .ok (.iinc 2 1, 3) := by decide +kernel
theorem dX12_river_103 : decode cX12_river 103 = .ok (.goto (-21), 3) := by decide +kernel
theorem dX12_river_106 : decode cX12_river 106 = .ok (.aload_n 0, 1) := by decide +kernel
theorem dX12_river_107 : decode cX12_river 107 = .ok (.getfield 13, 3) := by decide +kernel
theorem dX12_river_110 : decode cX12_river 110 = .ok (.sipush 160, 3) := by decide +kernel
theorem dX12_river_113 : decode cX12_river 113 = .ok (.iconst 0, 1) := by decide +kernel
theorem dX12_river_114 : decode cX12_river 114 = .ok (.iastore, 1) := by decide +kernel
theorem dX12_river_115 : decode cX12_river 115 = .ok (.aload_n 0, 1) := by decide +kernel
theorem dX12_river_116 : decode cX12_river 116 = .ok (.getfield 13, 3) := by decide +kernel
theorem dX12_river_119 : decode cX12_river 119 = .ok (.sipush 285, 3) := by decide +kernel
theorem dX12_river_122 : decode cX12_river 122 = .ok (.iconst 0, 1) := by decide +kernel
theorem dX12_river_123 : decode cX12_river 123 = .ok (.iastore, 1) := by decide +kernel
theorem dX12_river_124 : decode cX12_river 124 = .ok (.aload_n 0, 1) := by decide +kernel
theorem dX12_river_125 : decode cX12_river 125 = .ok (.getfield 13, 3) := by decide +kernel
theorem dX12_river_128 : decode cX12_river 128 = .ok (.sipush 350, 3) := by decide +kernel
theorem dX12_river_131 : decode cX12_river 131 = .ok (.iconst 0, 1) := by decide +kernel
theorem dX12_river_132 : decode cX12_river 132 = .ok (.iastore, 1) := by decide +kernel
theorem dX12_river_133 : decode cX12_river 133 = .ok (.iload_n 1, 1) := by decide +kernel
theorem dX12_river_134 : decode cX12_river 134 = .ok (.ireturn, 1) := by decide +kernel
theorem dX12_fault_0 : decode cX12_fault 0 = .ok (.aload_n 0, 1) := by decide +kernel
theorem dX12_fault_1 : decode cX12_fault 1 = .ok (.iconst 0, 1) := by decide +kernel
theorem dX12_fault_2 : decode cX12_fault 2 = .ok (.putfield 91, 3) := by decide +kernel
theorem dX12_fault_5 : decode cX12_fault 5 = .ok (.aload_n 0, 1) := by decide +kernel
theorem dX12_fault_6 : decode cX12_fault 6 = .ok (.getfield 153, 3) := by decide +kernel
theorem dX12_fault_9 : decode cX12_fault 9 = .ok (.ireturn, 1) := by decide +kernel
theorem dX12_reach_0 : decode cX12_reach 0 = .ok (.aload_n 0, 1) := by decide +kernel
theorem dX12_reach_1 : decode cX12_reach 1 = .ok (.invokevirtual 175, 3) := by decide +kernel
theorem dX12_reach_4 : decode cX12_reach 4 = .ok (.aload_n 0, 1) := by decide +kernel
theorem dX12_reach_5 : decode cX12_reach 5 = .ok (.iload_n 1, 1) := by decide +kernel
theorem dX12_reach_6 : decode cX12_reach 6 = .ok (.invokevirtual 268, 3) := by decide +kernel
theorem dX12_reach_9 : decode cX12_reach 9 = .ok (.ifCond .eq 12, 3) := by decide +kernel
theorem dX12_reach_12 : decode cX12_reach 12 = .ok (.iload_n 2, 1) := by decide +kernel
theorem dX12_reach_13 : decode cX12_reach 13 = .ok (.iconst 0, 1) := by decide +kernel
theorem dX12_reach_14 : decode cX12_reach 14 = .ok (.iconst 1, 1) := by decide +kernel
theorem dX12_reach_15 : decode cX12_reach 15 = .ok (.invokestatic 162, 3) := by decide +kernel
theorem dX12_reach_18 : decode cX12_reach 18 = .ok (.ifCond .ne 8, 3) := by decide +kernel
theorem dX12_reach_21 : decode cX12_reach 21 = .ok (.aload_n 0, 1) := by decide +kernel
theorem dX12_reach_22 : decode cX12_reach 22 = .ok (.invokevirtual 271, 3) := by decide +kernel
theorem dX12_reach_25 : decode cX12_reach 25 = .ok (.ireturn, 1) := by decide +kernel
theorem dX12_reach_26 : decode cX12_reach 26 = .ok (.aload_n 0, 1) := by decide +kernel
theorem dX12_reach_27 : decode cX12_reach 27 = .ok (.iconst 0, 1) := by decide +kernel
theorem dX12_reach_28 : decode cX12_reach 28 = .ok (.putfield 91, 3) := by decide +kernel
theorem dX12_reach_31 : decode cX12_reach 31 = .ok (.aload_n 0, 1) := by decide +kernel
theorem dX12_reach_32 : decode cX12_reach 32 = .ok (.getfield 13, 3) := by decide +kernel
theorem dX12_reach_35 : decode cX12_reach 35 = .ok (.bipush 10, 2) := by decide +kernel
theorem dX12_reach_37 : decode cX12_reach 37 = .ok (.iconst 2, 1) := by decide +kernel
theorem dX12_reach_38 : decode cX12_reach 38 = .ok (.iload_n 1, 1) := by decide +kernel
theorem dX12_reach_39 : decode cX12_reach 39 = .ok (.imul, 1) := by decide +kernel
theorem dX12_reach_40 : decode cX12_reach 40 = .ok (.iadd, 1) := by decide +kernel
theorem dX12_reach_41 : decode cX12_reach 41 = .ok (.iload_n 2, 1) := by decide +kernel
theorem dX12_reach_42 : decode cX12_reach 42 = .ok (.iadd, 1) := by decide +kernel
theorem dX12_reach_43 : decode cX12_reach 43 = .ok (.iaload, 1) := by decide +kernel
theorem dX12_reach_44 : decode cX12_reach 44 = .ok (.ireturn, 1) := by decide +kernel
theorem dX12_guild_0 : decode cX12_guild 0 = .ok (.aload_n 0, 1) := by decide +kernel
theorem dX12_guild_1 : decode cX12_guild 1 = .ok (.invokevirtual 175, 3) := by decide +kernel
theorem dX12_guild_4 : decode cX12_guild 4 = .ok (.aload_n 0, 1) := by decide +kernel
theorem dX12_guild_5 : decode cX12_guild 5 = .ok (.iload_n 1, 1) := by decide +kernel
theorem dX12_guild_6 : decode cX12_guild 6 = .ok (.invokevirtual 274, 3) := by decide +kernel
theorem dX12_guild_9 : decode cX12_guild 9 = .ok (.ifCond .eq 17, 3) := by decide +kernel
theorem dX12_guild_12 : decode cX12_guild 12 = .ok (.iload_n 2, 1) := by decide +kernel
theorem dX12_guild_13 : decode cX12_guild 13 = .ok (.ifCond .lt 13, 3) := by decide +kernel
theorem dX12_guild_16 : decode cX12_guild 16 = .ok (.iload_n 2, 1) := by decide +kernel
theorem dX12_guild_17 : decode cX12_guild 17 = .ok (.iconst 2, 1) := by decide +kernel
theorem dX12_guild_18 : decode cX12_guild 18 = .ok (.aload_n 0, 1) := by decide +kernel
theorem dX12_guild_19 : decode cX12_guild 19 = .ok (.invokevirtual 193, 3) := by decide +kernel
theorem dX12_guild_22 : decode cX12_guild 22 = .ok (.iadd, 1) := by decide +kernel
theorem dX12_guild_23 : decode cX12_guild 23 = .ok (.if_icmp .lt 8, 3) := by decide +kernel
theorem dX12_guild_26 : decode cX12_guild 26 = .ok (.aload_n 0, 1) := by decide +kernel
theorem dX12_guild_27 : decode cX12_guild 27 = .ok (.invokevirtual 271, 3) := by decide +kernel
theorem dX12_guild_30 : decode cX12_guild 30 = .ok (.ireturn, 1) := by decide +kernel
theorem dX12_guild_31 : decode cX12_guild 31 = .ok (.aload_n 0, 1) := by decide +kernel
theorem dX12_guild_32 : decode cX12_guild 32 = .ok (.iconst 0, 1) := by decide +kernel
theorem dX12_guild_33 : decode cX12_guild 33 = .ok (.putfield 91, 3) := by decide +kernel
theorem dX12_guild_36 : decode cX12_guild 36 = .ok (.aload_n 0, 1) := by decide +kernel
theorem dX12_guild_37 : decode cX12_guild 37 = .ok (.getfield 13, 3) := by decide +kernel
theorem dX12_guild_40 : decode cX12_guild 40 = .ok (.bipush 30, 2) := by decide +kernel
theorem dX12_guild_42 : decode cX12_guild 42 = .ok (.bipush 6, 2) := by decide +kernel
theorem dX12_guild_44 : decode cX12_guild 44 = .ok (.iload_n 1, 1) := by decide +kernel
theorem dX12_guild_45 : decode cX12_guild 45 = .ok (.imul, 1) := by decide +kernel
theorem dX12_guild_46 : decode cX12_guild 46 = .ok (.iadd, 1) := by decide +kernel
theorem dX12_guild_47 : decode cX12_guild 47 = .ok (.iload_n 2, 1) := by decide +kernel
theorem dX12_guild_48 : decode cX12_guild 48 = .ok (.iadd, 1) := by decide +kernel
theorem dX12_guild_49 : decode cX12_guild 49 = .ok (.iaload, 1) := by decide +kernel
theorem dX12_guild_50 : decode cX12_guild 50 = .ok (.ireturn, 1) := by decide +kernel
theorem dX12_user_0 : decode cX12_user 0 = .ok (.aload_n 0, 1) := by decide +kernel
theorem dX12_user_1 : decode cX12_user 1 = .ok (.invokevirtual 175, 3) := by decide +kernel
theorem dX12_user_4 : decode cX12_user 4 = .ok (.aload_n 0, 1) := by decide +kernel
theorem dX12_user_5 : decode cX12_user 5 = .ok (.iload_n 1, 1) := by decide +kernel
theorem dX12_user_6 : decode cX12_user 6 = .ok (.invokevirtual 277, 3) := by decide +kernel
theorem dX12_user_9 : decode cX12_user 9 = .ok (.ifCond .eq 17, 3) := by decide +kernel
theorem dX12_user_12 : decode cX12_user 12 = .ok (.iload_n 2, 1) := by decide +kernel
theorem dX12_user_13 : decode cX12_user 13 = .ok (.ifCond .lt 13, 3) := by decide +kernel
theorem dX12_user_16 : decode cX12_user 16 = .ok (.iload_n 2, 1) := by decide +kernel
theorem dX12_user_17 : decode cX12_user 17 = .ok (.iconst 3, 1) := by decide +kernel
theorem dX12_user_18 : decode cX12_user 18 = .ok (.aload_n 0, 1) := by decide +kernel
theorem dX12_user_19 : decode cX12_user 19 = .ok (.invokevirtual 193, 3) := by decide +kernel
theorem dX12_user_22 : decode cX12_user 22 = .ok (.iadd, 1) := by decide +kernel
theorem dX12_user_23 : decode cX12_user 23 = .ok (.if_icmp .lt 8, 3) := by decide +kernel
theorem dX12_user_26 : decode cX12_user 26 = .ok (.aload_n 0, 1) := by decide +kernel
theorem dX12_user_27 : decode cX12_user 27 = .ok (.invokevirtual 271, 3) := by decide +kernel
theorem dX12_user_30 : decode cX12_user 30 = .ok (.ireturn, 1) := by decide +kernel
theorem dX12_user_31 : decode cX12_user 31 = .ok (.aload_n 0, 1) := by decide +kernel
theorem dX12_user_32 : decode cX12_user 32 = .ok (.iconst 0, 1) := by decide +kernel
theorem dX12_user_33 : decode cX12_user 33 = .ok (.putfield 91, 3) := by decide +kernel
theorem dX12_user_36 : decode cX12_user 36 = .ok (.aload_n 0, 1) := by decide +kernel
theorem dX12_user_37 : decode cX12_user 37 = .ok (.getfield 13, 3) := by decide +kernel
theorem dX12_user_40 : decode cX12_user 40 = .ok (.bipush 66, 2) := by decide +kernel
theorem dX12_user_42 : decode cX12_user 42 = .ok (.bipush 7, 2) := by decide +kernel
theorem dX12_user_44 : decode cX12_user 44 = .ok (.iload_n 1, 1) := by decide +kernel
theorem dX12_user_45 : decode cX12_user 45 = .ok (.imul, 1) := by decide +kernel
theorem dX12_user_46 : decode cX12_user 46 = .ok (.iadd, 1) := by decide +kernel
theorem dX12_user_47 : decode cX12_user 47 = .ok (.iload_n 2, 1) := by decide +kernel
theorem dX12_user_48 : decode cX12_user 48 = .ok (.iadd, 1) := by decide +kernel
theorem dX12_user_49 : decode cX12_user 49 = .ok (.iaload, 1) := by decide +kernel
theorem dX12_user_50 : decode cX12_user 50 = .ok (.ireturn, 1) := by decide +kernel
theorem dX12_flow_0 : decode cX12_flow 0 = .ok (.aload_n 0, 1) := by decide +kernel
theorem dX12_flow_1 : decode cX12_flow 1 = .ok (.invokevirtual 175, 3) := by decide +kernel
theorem dX12_flow_4 : decode cX12_flow 4 = .ok (.iload_n 1, 1) := by decide +kernel
theorem dX12_flow_5 : decode cX12_flow 5 = .ok (.iconst 0, 1) := by decide +kernel
theorem dX12_flow_6 : decode cX12_flow 6 = .ok (.bipush 6, 2) := by decide +kernel
theorem dX12_flow_8 : decode cX12_flow 8 = .ok (.invokestatic 162, 3) := by decide +kernel
theorem dX12_flow_11 : decode cX12_flow 11 = .ok (.ifCond .ne 8, 3) := by decide +kernel
theorem dX12_flow_14 : decode cX12_flow 14 = .ok (.aload_n 0, 1) := by decide +kernel
theorem dX12_flow_15 : decode cX12_flow 15 = .ok (.invokevirtual 271, 3) := by decide +kernel
theorem dX12_flow_18 : decode cX12_flow 18 = .ok (.ireturn, 1) := by decide +kernel
theorem dX12_flow_19 : decode cX12_flow 19 = .ok (.aload_n 0, 1) := by decide +kernel
theorem dX12_flow_20 : decode cX12_flow 20 = .ok (.iconst 0, 1) := by decide +kernel
theorem dX12_flow_21 : decode cX12_flow 21 = .ok (.putfield 91, 3) := by decide +kernel
theorem dX12_flow_24 : decode cX12_flow 24 = .ok (.aload_n 0, 1) := by decide +kernel
theorem dX12_flow_25 : decode cX12_flow 25 = .ok (.getfield 13, 3) := by decide +kernel
theorem dX12_flow_28 : decode cX12_flow 28 = .ok (.bipush 110, 2) := by decide +kernel
theorem dX12_flow_30 : decode cX12_flow 30 = .ok (.iload_n 1, 1) := by decide +kernel
theorem dX12_flow_31 : decode cX12_flow 31 = .ok (.iadd, 1) := by decide +kernel
theorem dX12_flow_32 : decode cX12_flow 32 = .ok (.iaload, 1) := by decide +kernel
theorem dX12_flow_33 : decode cX12_flow 33 = .ok (.ireturn, 1) := by decide +kernel
theorem dX12_readBell_0 : decode cX12_readBell 0 = .ok (.aload_n 0, 1) := by decide +kernel
theorem dX12_readBell_1 : decode cX12_readBell 1 = .ok (.bipush 7, 2) := by decide +kernel
theorem dX12_readBell_3 : decode cX12_readBell 3 = .ok (.invokevirtual 235, 3) := by decide +kernel
theorem dX12_readBell_6 : decode cX12_readBell 6 = .ok (.ifCond .ne 9, 3) := by decide +kernel
theorem dX12_readBell_9 : decode cX12_readBell 9 = .ok (.aload_n 0, 1) := by decide +kernel
theorem dX12_readBell_10 : decode cX12_readBell 10 = .ok (.iconst 1, 1) := by decide +kernel
theorem dX12_readBell_11 : decode cX12_readBell 11 = .ok (.invokevirtual 159, 3) := by decide +kernel
theorem dX12_readBell_14 : decode cX12_readBell 14 = .ok (.ireturn, 1) := by decide +kernel
theorem dX12_readBell_15 : decode cX12_readBell 15 = .ok (.aload_n 0, 1) := by decide +kernel
theorem dX12_readBell_16 : decode cX12_readBell 16 = .ok (.getfield 280, 3) := by decide +kernel
theorem dX12_readBell_19 : decode cX12_readBell 19 = .ok (.bipush 40, 2) := by decide +kernel
theorem dX12_readBell_21 : decode cX12_readBell 21 = .ok (.if_icmp .ne 9, 3) := by decide +kernel
theorem dX12_readBell_24 : decode cX12_readBell 24 = .ok (.aload_n 0, 1) := by decide +kernel
theorem dX12_readBell_25 : decode cX12_readBell 25 = .ok (.iconst 4, 1) := by decide +kernel
theorem dX12_readBell_26 : decode cX12_readBell 26 = .ok (.invokevirtual 159, 3) := by decide +kernel
theorem dX12_readBell_29 : decode cX12_readBell 29 = .ok (.ireturn, 1) := by decide +kernel
theorem dX12_readBell_30 : decode cX12_readBell 30 = .ok (.aload_n 0, 1) := by decide +kernel
theorem dX12_readBell_31 : decode cX12_readBell 31 = .ok (.invokevirtual 169, 3) := by decide +kernel
theorem dX12_readBell_34 : decode cX12_readBell 34 = .ok (.aload_n 0, 1) := by decide +kernel
theorem dX12_readBell_35 : decode cX12_readBell 35 = .ok (.iconst 0, 1) := by decide +kernel
theorem dX12_readBell_36 : decode cX12_readBell 36 = .ok (.bipush 6, 2) := by decide +kernel
theorem dX12_readBell_38 : decode cX12_readBell 38 = .ok (.invokevirtual 216, 3) := by decide +kernel
theorem dX12_readBell_41 : decode cX12_readBell 41 = .ok (.ifCond .ne 5, 3) := by decide +kernel
theorem dX12_readBell_44 : decode cX12_readBell 44 = .ok (.iconst 0, 1) := by decide +kernel
theorem dX12_readBell_45 : decode cX12_readBell 45 = .ok (.ireturn, 1) := by decide +kernel
theorem dX12_readBell_46 : decode cX12_readBell 46 = .ok (.bipush 24, 2) := by decide +kernel
theorem dX12_readBell_48 : decode cX12_readBell 48 = .ok (.aload_n 0, 1) := by decide +kernel
theorem dX12_readBell_49 : decode cX12_readBell 49 = .ok (.getfield 166, 3) := by decide +kernel
theorem dX12_readBell_52 : decode cX12_readBell 52 = .ok (.imul, 1) := by decide +kernel
theorem dX12_readBell_53 : decode cX12_readBell 53 = .ok (.istore_n 1, 1) := by decide +kernel
theorem dX12_readBell_54 : decode cX12_readBell 54 = .ok (.aload_n 0, 1) := by decide +kernel
theorem dX12_readBell_55 : decode cX12_readBell 55 = .ok (.iconst 0, 1) := by decide +kernel
theorem dX12_readBell_56 : decode cX12_readBell 56 = .ok (.bipush 23, 2) := by decide +kernel
theorem dX12_readBell_58 : decode cX12_readBell 58 = .ok (.invokevirtual 216, 3) := by decide +kernel
theorem dX12_readBell_61 : decode cX12_readBell 61 = .ok (.ifCond .ne 5, 3) := by decide +kernel
theorem dX12_readBell_64 : decode cX12_readBell 64 = .ok (.iconst 0, 1) := by decide +kernel
theorem dX12_readBell_65 : decode cX12_readBell 65 = .ok (.ireturn, 1) := by decide +kernel
theorem dX12_readBell_66 : decode cX12_readBell 66 = .ok (.iload_n 1, 1) := by decide +kernel
theorem dX12_readBell_67 : decode cX12_readBell 67 = .ok (.aload_n 0, 1) := by decide +kernel
theorem dX12_readBell_68 : decode cX12_readBell 68 = .ok (.getfield 166, 3) := by decide +kernel
theorem dX12_readBell_71 : decode cX12_readBell 71 = .ok (.iadd, 1) := by decide +kernel
theorem dX12_readBell_72 : decode cX12_readBell 72 = .ok (.istore_n 1, 1) := by decide +kernel
theorem dX12_readBell_73 : decode cX12_readBell 73 = .ok (.aload_n 0, 1) := by decide +kernel
theorem dX12_readBell_74 : decode cX12_readBell 74 = .ok (.invokevirtual 206, 3) := by decide +kernel
theorem dX12_readBell_77 : decode cX12_readBell 77 = .ok (.ifCond .ne 9, 3) := by decide +kernel
theorem dX12_readBell_80 : decode cX12_readBell 80 = .ok (.aload_n 0, 1) := by decide +kernel
theorem dX12_readBell_81 : decode cX12_readBell 81 = .ok (.iconst 1, 1) := by decide +kernel
theorem dX12_readBell_82 : decode cX12_readBell 82 = .ok (.invokevirtual 159, 3) := by decide +kernel
theorem dX12_readBell_85 : decode cX12_readBell 85 = .ok (.ireturn, 1) := by decide +kernel
theorem dX12_readBell_86 : decode cX12_readBell 86 = .ok (.aload_n 0, 1) := by decide +kernel
theorem dX12_readBell_87 : decode cX12_readBell 87 = .ok (.aload_n 0, 1) := by decide +kernel
theorem dX12_readBell_88 : decode cX12_readBell 88 = .ok (.getfield 25, 3) := by decide +kernel
theorem dX12_readBell_91 : decode cX12_readBell 91 = .ok (.bipush 14, 2) := by decide +kernel
theorem dX12_readBell_93 : decode cX12_readBell 93 = .ok (.aload_n 0, 1) := by decide +kernel
theorem dX12_readBell_94 : decode cX12_readBell 94 = .ok (.invokevirtual 196, 3) := by decide +kernel
theorem dX12_readBell_97 : decode cX12_readBell 97 = .ok (.invokevirtual 202, 3) := by decide +kernel
theorem dX12_readBell_100 : decode cX12_readBell 100 = .ok (.istore_n 2, 1) := by decide +kernel
theorem dX12_readBell_101 : decode cX12_readBell 101 = .ok (.iload_n 2, 1) := by decide +kernel
theorem dX12_readBell_102 : decode cX12_readBell 102 = .ok (.iconst (-1), 1) := by decide +kernel
theorem dX12_readBell_103 : decode cX12_readBell 103 = .ok (.if_icmp .ne 9, 3) := by decide +kernel
theorem dX12_readBell_106 : decode cX12_readBell 106 = .ok (.aload_n 0, 1) := by decide +kernel
theorem dX12_readBell_107 : decode cX12_readBell 107 = .ok (.iconst 3, 1) := by decide +kernel
theorem dX12_readBell_108 : decode cX12_readBell 108 = .ok (.invokevirtual 159, 3) := by decide +kernel
theorem dX12_readBell_111 : decode cX12_readBell 111 = .ok (.ireturn, 1) := by decide +kernel
theorem dX12_readBell_112 : decode cX12_readBell 112 = .ok (.aload_n 0, 1) := by decide +kernel
theorem dX12_readBell_113 : decode cX12_readBell 113 = .ok (.invokevirtual 169, 3) := by decide +kernel
theorem dX12_readBell_116 : decode cX12_readBell 116 = .ok (.aload_n 0, 1) := by decide +kernel
theorem dX12_readBell_117 : decode cX12_readBell 117 = .ok (.iconst 1, 1) := by decide +kernel
theorem dX12_readBell_118 : decode cX12_readBell 118 = .ok (.sipush 168, 3) := by decide +kernel
theorem dX12_readBell_121 : decode cX12_readBell 121 = .ok (.iload_n 1, 1) := by decide +kernel
theorem dX12_readBell_122 : decode cX12_readBell 122 = .ok (.isub, 1) := by decide +kernel
theorem dX12_readBell_123 : decode cX12_readBell 123 = .ok (.bipush 24, 2) := by decide +kernel
theorem dX12_readBell_125 : decode cX12_readBell 125 = .ok (.if_icmp .ge 11, 3) := by decide +kernel
theorem dX12_readBell_128 : decode cX12_readBell 128 = .ok (.sipush 168, 3) := by decide +kernel
theorem dX12_readBell_131 : decode cX12_readBell 131 = .ok (.iload_n 1, 1) := by decide +kernel
theorem dX12_readBell_132 : decode cX12_readBell 132 = .ok (.isub, 1) := by decide +kernel
theorem dX12_readBell_133 : decode cX12_readBell 133 = .ok (.goto 5, 3) := by decide +kernel
theorem dX12_readBell_136 : decode cX12_readBell 136 = .ok (.bipush 24, 2) := by decide +kernel
theorem dX12_readBell_138 : decode cX12_readBell 138 = .ok (.invokevirtual 216, 3) := by decide +kernel
theorem dX12_readBell_141 : decode cX12_readBell 141 = .ok (.ifCond .ne 5, 3) := by decide +kernel
theorem dX12_readBell_144 : decode cX12_readBell 144 = .ok (.iconst 0, 1) := by decide +kernel
theorem dX12_readBell_145 : decode cX12_readBell 145 = .ok (.ireturn, 1) := by decide +kernel
theorem dX12_readBell_146 : decode cX12_readBell 146 = .ok (.aload_n 0, 1) := by decide +kernel
theorem dX12_readBell_147 : decode cX12_readBell 147 = .ok (.getfield 22, 3) := by decide +kernel
theorem dX12_readBell_150 : decode cX12_readBell 150 = .ok (.iconst 3, 1) := by decide +kernel
theorem dX12_readBell_151 : decode cX12_readBell 151 = .ok (.aload_n 0, 1) := by decide +kernel
theorem dX12_readBell_152 : decode cX12_readBell 152 = .ok (.getfield 280, 3) := by decide +kernel
theorem dX12_readBell_155 : decode cX12_readBell 155 = .ok (.imul, 1) := by decide +kernel
theorem dX12_readBell_156 : decode cX12_readBell 156 = .ok (.iload_n 1, 1) := by decide +kernel
theorem dX12_readBell_157 : decode cX12_readBell 157 = .ok (.iastore, 1) := by decide +kernel
theorem dX12_readBell_158 : decode cX12_readBell 158 = .ok (.aload_n 0, 1) := by decide +kernel
theorem dX12_readBell_159 : decode cX12_readBell 159 = .ok (.getfield 22, 3) := by decide +kernel
theorem dX12_readBell_162 : decode cX12_readBell 162 = .ok (.iconst 3, 1) := by decide +kernel
theorem dX12_readBell_163 : decode cX12_readBell 163 = .ok (.aload_n 0, 1) := by decide +kernel
theorem dX12_readBell_164 : decode cX12_readBell 164 = .ok (.getfield 280, 3) := by decide +kernel
theorem dX12_readBell_167 : decode cX12_readBell 167 = .ok (.imul, 1) := by decide +kernel
theorem dX12_readBell_168 : decode cX12_readBell 168 = .ok (.iconst 1, 1) := by decide +kernel
theorem dX12_readBell_169 : decode cX12_readBell 169 = .ok (.iadd, 1) := by decide +kernel
theorem dX12_readBell_170 : decode cX12_readBell 170 = .ok (.iload_n 2, 1) := by decide +kernel
theorem dX12_readBell_171 : decode cX12_readBell 171 = .ok (.iastore, 1) := by decide +kernel
theorem dX12_readBell_172 : decode cX12_readBell 172 = .ok (.aload_n 0, 1) := by decide +kernel
theorem dX12_readBell_173 : decode cX12_readBell 173 = .ok (.getfield 22, 3) := by decide +kernel
theorem dX12_readBell_176 : decode cX12_readBell 176 = .ok (.iconst 3, 1) := by decide +kernel
theorem dX12_readBell_177 : decode cX12_readBell 177 = .ok (.aload_n 0, 1) := by decide +kernel
theorem dX12_readBell_178 : decode cX12_readBell 178 = .ok (.getfield 280, 3) := by decide +kernel
theorem dX12_readBell_181 : decode cX12_readBell 181 = .ok (.imul, 1) := by decide +kernel
theorem dX12_readBell_182 : decode cX12_readBell 182 = .ok (.iconst 2, 1) := by decide +kernel
theorem dX12_readBell_183 : decode cX12_readBell 183 = .ok (.iadd, 1) := by decide +kernel
theorem dX12_readBell_184 : decode cX12_readBell 184 = .ok (.aload_n 0, 1) := by decide +kernel
theorem dX12_readBell_185 : decode cX12_readBell 185 = .ok (.getfield 166, 3) := by decide +kernel
theorem dX12_readBell_188 : decode cX12_readBell 188 = .ok (.iastore, 1) := by decide +kernel
theorem dX12_readBell_189 : decode cX12_readBell 189 = .ok (.aload_n 0, 1) := by decide +kernel
theorem dX12_readBell_190 : decode cX12_readBell 190 = .ok (.dup, 1) := by decide +kernel
theorem dX12_readBell_191 : decode cX12_readBell 191 = .ok (.getfield 280, 3) := by decide +kernel
theorem dX12_readBell_194 : decode cX12_readBell 194 = .ok (.iconst 1, 1) := by decide +kernel
theorem dX12_readBell_195 : decode cX12_readBell 195 = .ok (.iadd, 1) := by decide +kernel
theorem dX12_readBell_196 : decode cX12_readBell 196 = .ok (.putfield 280, 3) := by decide +kernel
theorem dX12_readBell_199 : decode cX12_readBell 199 = .ok (.aload_n 0, 1) := by decide +kernel
theorem dX12_readBell_200 : decode cX12_readBell 200 = .ok (.invokevirtual 259, 3) := by decide +kernel
theorem dX12_readBell_203 : decode cX12_readBell 203 = .ok (.ireturn, 1) := by decide +kernel
theorem dX12_order_0 : decode cX12_order 0 = .ok (.aload_n 0, 1) := by decide +kernel
theorem dX12_order_1 : decode cX12_order 1 = .ok (.sipush 600, 3) := by decide +kernel
theorem dX12_order_4 : decode cX12_order 4 = .ok (.invokevirtual 262, 3) := by decide +kernel
theorem dX12_order_7 : decode cX12_order 7 = .ok (.aload_n 0, 1) := by decide +kernel
theorem dX12_order_8 : decode cX12_order 8 = .ok (.iconst 0, 1) := by decide +kernel
theorem dX12_order_9 : decode cX12_order 9 = .ok (.putfield 280, 3) := by decide +kernel
theorem dX12_order_12 : decode cX12_order 12 = .ok (.aload_n 0, 1) := by decide +kernel
theorem dX12_order_13 : decode cX12_order 13 = .ok (.getfield 113, 3) := by decide +kernel
theorem dX12_order_16 : decode cX12_order 16 = .ok (.ifCond .eq 17, 3) := by decide +kernel
theorem dX12_order_19 : decode cX12_order 19 = .ok (.aload_n 0, 1) := by decide +kernel
theorem dX12_order_20 : decode cX12_order 20 = .ok (.invokevirtual 283, 3) := by decide +kernel
theorem dX12_order_23 : decode cX12_order 23 = .ok (.ifCond .ne (-11), 3) := by decide +kernel
theorem dX12_order_26 : decode cX12_order 26 = .ok (.iconst (-1), 1) := by decide +kernel
theorem dX12_order_27 : decode cX12_order 27 = .ok (.aload_n 0, 1) := by decide +kernel
theorem dX12_order_28 : decode cX12_order 28 = .ok (.getfield 156, 3) := by decide +kernel
theorem dX12_order_31 : decode cX12_order 31 = .ok (.isub, 1) := by decide +kernel
theorem dX12_order_32 : decode cX12_order 32 = .ok (.ireturn, 1) := by decide +kernel
theorem dX12_order_33 : decode cX12_order 33 = .ok (.iconst 0, 1) := by decide +kernel
theorem dX12_order_34 : decode cX12_order 34 = .ok (.istore_n 1, 1) := by decide +kernel
theorem dX12_order_35 : decode cX12_order 35 = .ok (.iload_n 1, 1) := by decide +kernel
theorem dX12_order_36 : decode cX12_order 36 = .ok (.iconst 3, 1) := by decide +kernel
theorem dX12_order_37 : decode cX12_order 37 = .ok (.aload_n 0, 1) := by decide +kernel
theorem dX12_order_38 : decode cX12_order 38 = .ok (.getfield 280, 3) := by decide +kernel
theorem dX12_order_41 : decode cX12_order 41 = .ok (.imul, 1) := by decide +kernel
theorem dX12_order_42 : decode cX12_order 42 = .ok (.if_icmp .ge 25, 3) := by decide +kernel
theorem dX12_order_45 : decode cX12_order 45 = .ok (.aload_n 0, 1) := by decide +kernel
theorem dX12_order_46 : decode cX12_order 46 = .ok (.getfield 13, 3) := by decide +kernel
theorem dX12_order_49 : decode cX12_order 49 = .ok (.sipush 161, 3) := by decide +kernel
theorem dX12_order_52 : decode cX12_order 52 = .ok (.iload_n 1, 1) := by decide +kernel
theorem dX12_order_53 : decode cX12_order 53 = .ok (.iadd, 1) := by decide +kernel
theorem dX12_order_54 : decode cX12_order 54 = .ok (.aload_n 0, 1) := by decide +kernel
theorem dX12_order_55 : decode cX12_order 55 = .ok (.getfield 22, 3) := by decide +kernel
theorem dX12_order_58 : decode cX12_order 58 = .ok (.iload_n 1, 1) := by decide +kernel
theorem dX12_order_59 : decode cX12_order 59 = .ok (.iaload, 1) := by decide +kernel
theorem dX12_order_60 : decode cX12_order 60 = .ok (.iastore, 1) := by decide +kernel
theorem dX12_order_61 : decode cX12_order 61 = .ok (.iinc 1 1, 3) := by decide +kernel
theorem dX12_order_64 : decode cX12_order 64 = .ok (.goto (-29), 3) := by decide +kernel
theorem dX12_order_67 : decode cX12_order 67 = .ok (.aload_n 0, 1) := by decide +kernel
theorem dX12_order_68 : decode cX12_order 68 = .ok (.getfield 13, 3) := by decide +kernel
theorem dX12_order_71 : decode cX12_order 71 = .ok (.sipush 160, 3) := by decide +kernel
theorem dX12_order_74 : decode cX12_order 74 = .ok (.aload_n 0, 1) := by decide +kernel
theorem dX12_order_75 : decode cX12_order 75 = .ok (.getfield 280, 3) := by decide +kernel
theorem dX12_order_78 : decode cX12_order 78 = .ok (.iastore, 1) := by decide +kernel
theorem dX12_order_79 : decode cX12_order 79 = .ok (.aload_n 0, 1) := by decide +kernel
theorem dX12_order_80 : decode cX12_order 80 = .ok (.getfield 280, 3) := by decide +kernel
theorem dX12_order_83 : decode cX12_order 83 = .ok (.ireturn, 1) := by decide +kernel
theorem dX12_addBell_0 : decode cX12_addBell 0 = .ok (.sipush 161, 3) := by decide +kernel
theorem dX12_addBell_3 : decode cX12_addBell 3 = .ok (.iconst 3, 1) := by decide +kernel
theorem dX12_addBell_4 : decode cX12_addBell 4 = .ok (.aload_n 0, 1) := by decide +kernel
theorem dX12_addBell_5 : decode cX12_addBell 5 = .ok (.invokevirtual 286, 3) := by decide +kernel
theorem dX12_addBell_8 : decode cX12_addBell 8 = .ok (.imul, 1) := by decide +kernel
theorem dX12_addBell_9 : decode cX12_addBell 9 = .ok (.iadd, 1) := by decide +kernel
theorem dX12_addBell_10 : decode cX12_addBell 10 = .ok (.istore 4, 2) := by decide +kernel
theorem dX12_addBell_12 : decode cX12_addBell 12 = .ok (.aload_n 0, 1) := by decide +kernel
theorem dX12_addBell_13 : decode cX12_addBell 13 = .ok (.getfield 13, 3) := by decide +kernel
theorem dX12_addBell_16 : decode cX12_addBell 16 = .ok (.iload 4, 2) := by decide +kernel
theorem dX12_addBell_18 : decode cX12_addBell 18 = .ok (.iload_n 1, 1) := by decide +kernel
theorem dX12_addBell_19 : decode cX12_addBell 19 = .ok (.iastore, 1) := by decide +kernel
theorem dX12_addBell_20 : decode cX12_addBell 20 = .ok (.aload_n 0, 1) := by decide +kernel
theorem dX12_addBell_21 : decode cX12_addBell 21 = .ok (.getfield 13, 3) := by decide +kernel
theorem dX12_addBell_24 : decode cX12_addBell 24 = .ok (.iload 4, 2) := by decide +kernel
theorem dX12_addBell_26 : decode cX12_addBell 26 = .ok (.iconst 1, 1) := by decide +kernel
theorem dX12_addBell_27 : decode cX12_addBell 27 = .ok (.iadd, 1) := by decide +kernel
theorem dX12_addBell_28 : decode cX12_addBell 28 = .ok (.iload_n 2, 1) := by decide +kernel
theorem dX12_addBell_29 : decode cX12_addBell 29 = .ok (.iastore, 1) := by decide +kernel
theorem dX12_addBell_30 : decode cX12_addBell 30 = .ok (.aload_n 0, 1) := by decide +kernel
theorem dX12_addBell_31 : decode cX12_addBell 31 = .ok (.getfield 13, 3) := by decide +kernel
theorem dX12_addBell_34 : decode cX12_addBell 34 = .ok (.iload 4, 2) := by decide +kernel
theorem dX12_addBell_36 : decode cX12_addBell 36 = .ok (.iconst 2, 1) := by decide +kernel
theorem dX12_addBell_37 : decode cX12_addBell 37 = .ok (.iadd, 1) := by decide +kernel
theorem dX12_addBell_38 : decode cX12_addBell 38 = .ok (.iload_n 3, 1) := by decide +kernel
theorem dX12_addBell_39 : decode cX12_addBell 39 = .ok (.iastore, 1) := by decide +kernel
theorem dX12_addBell_40 : decode cX12_addBell 40 = .ok (.aload_n 0, 1) := by decide +kernel
theorem dX12_addBell_41 : decode cX12_addBell 41 = .ok (.getfield 13, 3) := by decide +kernel
theorem dX12_addBell_44 : decode cX12_addBell 44 = .ok (.sipush 160, 3) := by decide +kernel
theorem dX12_addBell_47 : decode cX12_addBell 47 = .ok (.dup2, 1) := by decide +kernel
theorem dX12_addBell_48 : decode cX12_addBell 48 = .ok (.iaload, 1) := by decide +kernel
theorem dX12_addBell_49 : decode cX12_addBell 49 = .ok (.iconst 1, 1) := by decide +kernel
theorem dX12_addBell_50 : decode cX12_addBell 50 = .ok (.iadd, 1) := by decide +kernel
theorem dX12_addBell_51 : decode cX12_addBell 51 = .ok (.iastore, 1) := by decide +kernel
theorem dX12_addBell_52 : decode cX12_addBell 52 = .ok (.return_, 1) := by decide +kernel
theorem dX12_ring_0 : decode cX12_ring 0 = .ok (.aload_n 0, 1) := by decide +kernel
theorem dX12_ring_1 : decode cX12_ring 1 = .ok (.iconst 0, 1) := by decide +kernel
theorem dX12_ring_2 : decode cX12_ring 2 = .ok (.putfield 91, 3) := by decide +kernel
theorem dX12_ring_5 : decode cX12_ring 5 = .ok (.aload_n 0, 1) := by decide +kernel
theorem dX12_ring_6 : decode cX12_ring 6 = .ok (.invokevirtual 175, 3) := by decide +kernel
theorem dX12_ring_9 : decode cX12_ring 9 = .ok (.aload_n 0, 1) := by decide +kernel
theorem dX12_ring_10 : decode cX12_ring 10 = .ok (.iload_n 2, 1) := by decide +kernel
theorem dX12_ring_11 : decode cX12_ring 11 = .ok (.invokevirtual 274, 3) := by decide +kernel
theorem dX12_ring_14 : decode cX12_ring 14 = .ok (.ifCond .eq 42, 3) := by decide +kernel
theorem dX12_ring_17 : decode cX12_ring 17 = .ok (.iload_n 1, 1) := by decide +kernel
theorem dX12_ring_18 : decode cX12_ring 18 = .ok (.iconst 0, 1) := by decide +kernel
theorem dX12_ring_19 : decode cX12_ring 19 = .ok (.sipush 167, 3) := by decide +kernel
theorem dX12_ring_22 : decode cX12_ring 22 = .ok (.invokestatic 162, 3) := by decide +kernel
theorem dX12_ring_25 : decode cX12_ring 25 = .ok (.ifCond .eq 31, 3) := by decide +kernel
theorem dX12_ring_28 : decode cX12_ring 28 = .ok (.iload_n 3, 1) := by decide +kernel
theorem dX12_ring_29 : decode cX12_ring 29 = .ok (.iconst 1, 1) := by decide +kernel
theorem dX12_ring_30 : decode cX12_ring 30 = .ok (.bipush 24, 2) := by decide +kernel
theorem dX12_ring_32 : decode cX12_ring 32 = .ok (.invokestatic 162, 3) := by decide +kernel
theorem dX12_ring_35 : decode cX12_ring 35 = .ok (.ifCond .eq 21, 3) := by decide +kernel
theorem dX12_ring_38 : decode cX12_ring 38 = .ok (.iload_n 1, 1) := by decide +kernel
theorem dX12_ring_39 : decode cX12_ring 39 = .ok (.iload_n 3, 1) := by decide +kernel
theorem dX12_ring_40 : decode cX12_ring 40 = .ok (.iadd, 1) := by decide +kernel
theorem dX12_ring_41 : decode cX12_ring 41 = .ok (.sipush 168, 3) := by decide +kernel
theorem dX12_ring_44 : decode cX12_ring 44 = .ok (.if_icmp .gt 12, 3) := by decide +kernel
theorem dX12_ring_47 : decode cX12_ring 47 = .ok (.aload_n 0, 1) := by decide +kernel
theorem dX12_ring_48 : decode cX12_ring 48 = .ok (.invokevirtual 286, 3) := by decide +kernel
theorem dX12_ring_51 : decode cX12_ring 51 = .ok (.bipush 40, 2) := by decide +kernel
theorem dX12_ring_53 : decode cX12_ring 53 = .ok (.if_icmp .ne 5, 3) := by decide +kernel
theorem dX12_ring_56 : decode cX12_ring 56 = .ok (.iconst (-1), 1) := by decide +kernel
theorem dX12_ring_57 : decode cX12_ring 57 = .ok (.ireturn, 1) := by decide +kernel
theorem dX12_ring_58 : decode cX12_ring 58 = .ok (.aload_n 0, 1) := by decide +kernel
theorem dX12_ring_59 : decode cX12_ring 59 = .ok (.iload_n 1, 1) := by decide +kernel
theorem dX12_ring_60 : decode cX12_ring 60 = .ok (.iload_n 2, 1) := by decide +kernel
theorem dX12_ring_61 : decode cX12_ring 61 = .ok (.iload_n 3, 1) := by decide +kernel
theorem dX12_ring_62 : decode cX12_ring 62 = .ok (.invokevirtual 289, 3) := by decide +kernel
theorem dX12_ring_65 : decode cX12_ring 65 = .ok (.aload_n 0, 1) := by decide +kernel
theorem dX12_ring_66 : decode cX12_ring 66 = .ok (.invokevirtual 286, 3) := by decide +kernel
theorem dX12_ring_69 : decode cX12_ring 69 = .ok (.iconst 1, 1) := by decide +kernel
theorem dX12_ring_70 : decode cX12_ring 70 = .ok (.isub, 1) := by decide +kernel
theorem dX12_ring_71 : decode cX12_ring 71 = .ok (.ireturn, 1) := by decide +kernel
theorem dX12_undo_0 : decode cX12_undo 0 = .ok (.aload_n 0, 1) := by decide +kernel
theorem dX12_undo_1 : decode cX12_undo 1 = .ok (.iconst 0, 1) := by decide +kernel
theorem dX12_undo_2 : decode cX12_undo 2 = .ok (.putfield 91, 3) := by decide +kernel
theorem dX12_undo_5 : decode cX12_undo 5 = .ok (.aload_n 0, 1) := by decide +kernel
theorem dX12_undo_6 : decode cX12_undo 6 = .ok (.invokevirtual 175, 3) := by decide +kernel
theorem dX12_undo_9 : decode cX12_undo 9 = .ok (.aload_n 0, 1) := by decide +kernel
theorem dX12_undo_10 : decode cX12_undo 10 = .ok (.invokevirtual 286, 3) := by decide +kernel
theorem dX12_undo_13 : decode cX12_undo 13 = .ok (.ifCond .ne 5, 3) := by decide +kernel
theorem dX12_undo_16 : decode cX12_undo 16 = .ok (.iconst (-1), 1) := by decide +kernel
theorem dX12_undo_17 : decode cX12_undo 17 = .ok (.ireturn, 1) := by decide +kernel
theorem dX12_undo_18 : decode cX12_undo 18 = .ok (.aload_n 0, 1) := by decide +kernel
theorem dX12_undo_19 : decode cX12_undo 19 = .ok (.getfield 13, 3) := by decide +kernel
theorem dX12_undo_22 : decode cX12_undo 22 = .ok (.sipush 160, 3) := by decide +kernel
theorem dX12_undo_25 : decode cX12_undo 25 = .ok (.dup2, 1) := by decide +kernel
theorem dX12_undo_26 : decode cX12_undo 26 = .ok (.iaload, 1) := by decide +kernel
theorem dX12_undo_27 : decode cX12_undo 27 = .ok (.iconst 1, 1) := by decide +kernel
theorem dX12_undo_28 : decode cX12_undo 28 = .ok (.isub, 1) := by decide +kernel
theorem dX12_undo_29 : decode cX12_undo 29 = .ok (.iastore, 1) := by decide +kernel
theorem dX12_undo_30 : decode cX12_undo 30 = .ok (.aload_n 0, 1) := by decide +kernel
theorem dX12_undo_31 : decode cX12_undo 31 = .ok (.invokevirtual 286, 3) := by decide +kernel
theorem dX12_undo_34 : decode cX12_undo 34 = .ok (.ireturn, 1) := by decide +kernel
theorem dX12_bell_0 : decode cX12_bell 0 = .ok (.aload_n 0, 1) := by decide +kernel
theorem dX12_bell_1 : decode cX12_bell 1 = .ok (.invokevirtual 175, 3) := by decide +kernel
theorem dX12_bell_4 : decode cX12_bell 4 = .ok (.iload_n 1, 1) := by decide +kernel
theorem dX12_bell_5 : decode cX12_bell 5 = .ok (.ifCond .lt 20, 3) := by decide +kernel
theorem dX12_bell_8 : decode cX12_bell 8 = .ok (.iload_n 1, 1) := by decide +kernel
theorem dX12_bell_9 : decode cX12_bell 9 = .ok (.aload_n 0, 1) := by decide +kernel
theorem dX12_bell_10 : decode cX12_bell 10 = .ok (.invokevirtual 286, 3) := by decide +kernel
theorem dX12_bell_13 : decode cX12_bell 13 = .ok (.if_icmp .ge 12, 3) := by decide +kernel
theorem dX12_bell_16 : decode cX12_bell 16 = .ok (.iload_n 2, 1) := by decide +kernel
theorem dX12_bell_17 : decode cX12_bell 17 = .ok (.iconst 0, 1) := by decide +kernel
theorem dX12_bell_18 : decode cX12_bell 18 = .ok (.iconst 2, 1) := by decide +kernel
theorem dX12_bell_19 : decode cX12_bell 19 = .ok (.invokestatic 162, 3) := by decide +kernel
theorem dX12_bell_22 : decode cX12_bell 22 = .ok (.ifCond .ne 8, 3) := by decide +kernel
theorem dX12_bell_25 : decode cX12_bell 25 = .ok (.aload_n 0, 1) := by decide +kernel
theorem dX12_bell_26 : decode cX12_bell 26 = .ok (.invokevirtual 271, 3) := by decide +kernel
theorem dX12_bell_29 : decode cX12_bell 29 = .ok (.ireturn, 1) := by decide +kernel
theorem dX12_bell_30 : decode cX12_bell 30 = .ok (.aload_n 0, 1) := by decide +kernel
theorem dX12_bell_31 : decode cX12_bell 31 = .ok (.iconst 0, 1) := by decide +kernel
theorem dX12_bell_32 : decode cX12_bell 32 = .ok (.putfield 91, 3) := by decide +kernel
theorem dX12_bell_35 : decode cX12_bell 35 = .ok (.aload_n 0, 1) := by decide +kernel
theorem dX12_bell_36 : decode cX12_bell 36 = .ok (.getfield 13, 3) := by decide +kernel
theorem dX12_bell_39 : decode cX12_bell 39 = .ok (.sipush 161, 3) := by decide +kernel
theorem dX12_bell_42 : decode cX12_bell 42 = .ok (.iconst 3, 1) := by decide +kernel
theorem dX12_bell_43 : decode cX12_bell 43 = .ok (.iload_n 1, 1) := by decide +kernel
theorem dX12_bell_44 : decode cX12_bell 44 = .ok (.imul, 1) := by decide +kernel
theorem dX12_bell_45 : decode cX12_bell 45 = .ok (.iadd, 1) := by decide +kernel
theorem dX12_bell_46 : decode cX12_bell 46 = .ok (.iload_n 2, 1) := by decide +kernel
theorem dX12_bell_47 : decode cX12_bell 47 = .ok (.iadd, 1) := by decide +kernel
theorem dX12_bell_48 : decode cX12_bell 48 = .ok (.iaload, 1) := by decide +kernel
theorem dX12_bell_49 : decode cX12_bell 49 = .ok (.ireturn, 1) := by decide +kernel
theorem dX12_layWorks_0 : decode cX12_layWorks 0 = .ok (.iconst 0, 1) := by decide +kernel
theorem dX12_layWorks_1 : decode cX12_layWorks 1 = .ok (.istore_n 2, 1) := by decide +kernel
theorem dX12_layWorks_2 : decode cX12_layWorks 2 = .ok (.iload_n 2, 1) := by decide +kernel
theorem dX12_layWorks_3 : decode cX12_layWorks 3 = .ok (.sipush 168, 3) := by decide +kernel
theorem dX12_layWorks_6 : decode cX12_layWorks 6 = .ok (.if_icmp .ge 16, 3) := by decide +kernel
theorem dX12_layWorks_9 : decode cX12_layWorks 9 = .ok (.aload_n 0, 1) := by decide +kernel
theorem dX12_layWorks_10 : decode cX12_layWorks 10 = .ok (.getfield 39, 3) := by decide +kernel
theorem dX12_layWorks_13 : decode cX12_layWorks 13 = .ok (.iload_n 2, 1) := by decide +kernel
theorem dX12_layWorks_14 : decode cX12_layWorks 14 = .ok (.iconst 0, 1) := by decide +kernel
theorem dX12_layWorks_15 : decode cX12_layWorks 15 = .ok (.iastore, 1) := by decide +kernel
theorem dX12_layWorks_16 : decode cX12_layWorks 16 = .ok (.iinc 2 1, 3) := by decide +kernel
theorem dX12_layWorks_19 : decode cX12_layWorks 19 = .ok (.goto (-17), 3) := by decide +kernel
theorem dX12_layWorks_22 : decode cX12_layWorks 22 = .ok (.iconst 0, 1) := by decide +kernel
theorem dX12_layWorks_23 : decode cX12_layWorks 23 = .ok (.istore_n 2, 1) := by decide +kernel
theorem dX12_layWorks_24 : decode cX12_layWorks 24 = .ok (.iload_n 2, 1) := by decide +kernel
theorem dX12_layWorks_25 : decode cX12_layWorks 25 = .ok (.aload_n 0, 1) := by decide +kernel
theorem dX12_layWorks_26 : decode cX12_layWorks 26 = .ok (.invokevirtual 286, 3) := by decide +kernel
theorem dX12_layWorks_29 : decode cX12_layWorks 29 = .ok (.if_icmp .ge 81, 3) := by decide +kernel
theorem dX12_layWorks_32 : decode cX12_layWorks 32 = .ok (.sipush 161, 3) := by decide +kernel
theorem dX12_layWorks_35 : decode cX12_layWorks 35 = .ok (.iconst 3, 1) := by decide +kernel
theorem dX12_layWorks_36 : decode cX12_layWorks 36 = .ok (.iload_n 2, 1) := by decide +kernel
theorem dX12_layWorks_37 : decode cX12_layWorks 37 = .ok (.imul, 1) := by decide +kernel
theorem dX12_layWorks_38 : decode cX12_layWorks 38 = .ok (.iadd, 1) := by decide +kernel
theorem dX12_layWorks_39 : decode cX12_layWorks 39 = .ok (.istore_n 3, 1) := by decide +kernel
theorem dX12_layWorks_40 : decode cX12_layWorks 40 = .ok (.aload_n 0, 1) := by decide +kernel
theorem dX12_layWorks_41 : decode cX12_layWorks 41 = .ok (.getfield 13, 3) := by decide +kernel
theorem dX12_layWorks_44 : decode cX12_layWorks 44 = .ok (.iload_n 3, 1) := by decide +kernel
theorem dX12_layWorks_45 : decode cX12_layWorks 45 = .ok (.iconst 1, 1) := by decide +kernel
theorem dX12_layWorks_46 : decode cX12_layWorks 46 = .ok (.iadd, 1) := by decide +kernel
theorem dX12_layWorks_47 : decode cX12_layWorks 47 = .ok (.iaload, 1) := by decide +kernel
theorem dX12_layWorks_48 : decode cX12_layWorks 48 = .ok (.iload_n 1, 1) := by decide +kernel
theorem dX12_layWorks_49 : decode cX12_layWorks 49 = .ok (.if_icmp .ne 6, 3) := by decide +kernel
theorem dX12_layWorks_52 : decode cX12_layWorks 52 = .ok (.goto 52, 3) := by decide +kernel
theorem dX12_layWorks_55 : decode cX12_layWorks 55 = .ok (.iconst 0, 1) := by decide +kernel
theorem dX12_layWorks_56 : decode cX12_layWorks 56 = .ok (.istore 4, 2) := by decide +kernel
theorem dX12_layWorks_58 : decode cX12_layWorks 58 = .ok (.iload 4, 2) := by decide +kernel
theorem dX12_layWorks_60 : decode cX12_layWorks 60 = .ok (.aload_n 0, 1) := by decide +kernel
theorem dX12_layWorks_61 : decode cX12_layWorks 61 = .ok (.getfield 13, 3) := by decide +kernel
theorem dX12_layWorks_64 : decode cX12_layWorks 64 = .ok (.iload_n 3, 1) := by decide +kernel
theorem dX12_layWorks_65 : decode cX12_layWorks 65 = .ok (.iconst 2, 1) := by decide +kernel
theorem dX12_layWorks_66 : decode cX12_layWorks 66 = .ok (.iadd, 1) := by decide +kernel
theorem dX12_layWorks_67 : decode cX12_layWorks 67 = .ok (.iaload, 1) := by decide +kernel
theorem dX12_layWorks_68 : decode cX12_layWorks 68 = .ok (.if_icmp .ge 36, 3) := by decide +kernel
theorem dX12_layWorks_71 : decode cX12_layWorks 71 = .ok (.aload_n 0, 1) := by decide +kernel
theorem dX12_layWorks_72 : decode cX12_layWorks 72 = .ok (.getfield 39, 3) := by decide +kernel
theorem dX12_layWorks_75 : decode cX12_layWorks 75 = .ok (.aload_n 0, 1) := by decide +kernel
theorem dX12_layWorks_76 : decode cX12_layWorks 76 = .ok (.getfield 13, 3) := by decide +kernel
theorem dX12_layWorks_79 : decode cX12_layWorks 79 = .ok (.iload_n 3, 1) := by decide +kernel
theorem dX12_layWorks_80 : decode cX12_layWorks 80 = .ok (.iaload, 1) := by decide +kernel
theorem dX12_layWorks_81 : decode cX12_layWorks 81 = .ok (.iload 4, 2) := by decide +kernel
theorem dX12_layWorks_83 : decode cX12_layWorks 83 = .ok (.iadd, 1) := by decide +kernel
theorem dX12_layWorks_84 : decode cX12_layWorks 84 = .ok (.dup2, 1) := by decide +kernel
theorem dX12_layWorks_85 : decode cX12_layWorks 85 = .ok (.iaload, 1) := by decide +kernel
theorem dX12_layWorks_86 : decode cX12_layWorks 86 = .ok (.iconst 1, 1) := by decide +kernel
theorem dX12_layWorks_87 : decode cX12_layWorks 87 = .ok (.aload_n 0, 1) := by decide +kernel
theorem dX12_layWorks_88 : decode cX12_layWorks 88 = .ok (.getfield 13, 3) := by decide +kernel
theorem dX12_layWorks_91 : decode cX12_layWorks 91 = .ok (.iload_n 3, 1) := by decide +kernel
theorem dX12_layWorks_92 : decode cX12_layWorks 92 = .ok (.iconst 1, 1) := by decide +kernel
theorem dX12_layWorks_93 : decode cX12_layWorks 93 = .ok (.iadd, 1) := by decide +kernel
theorem dX12_layWorks_94 : decode cX12_layWorks 94 = .ok (.iaload, 1) := by decide +kernel
theorem dX12_layWorks_95 : decode cX12_layWorks 95 = .ok (.ishl, 1) := by decide +kernel
theorem dX12_layWorks_96 : decode cX12_layWorks 96 = .ok (.ior, 1) := by decide +kernel
theorem dX12_layWorks_97 : decode cX12_layWorks 97 = .ok (.iastore, 1) := by decide +kernel
theorem dX12_layWorks_98 : decode cX12_layWorks 98 = .ok (.iinc 4 1, 3) := by decide +kernel
theorem dX12_layWorks_101 : decode cX12_layWorks 101 = .ok (.goto (-43), 3) := by decide +kernel
theorem dX12_layWorks_104 : decode cX12_layWorks 104 = .ok (.iinc 2 1, 3) := by decide +kernel
theorem dX12_layWorks_107 : decode cX12_layWorks 107 = .ok (.goto (-83), 3) := by decide +kernel
theorem dX12_layWorks_110 : decode cX12_layWorks 110 = .ok (.return_, 1) := by decide +kernel
theorem dX12_layFlows_0 : decode cX12_layFlows 0 = .ok (.iconst 0, 1) := by decide +kernel
theorem dX12_layFlows_1 : decode cX12_layFlows 1 = .ok (.istore_n 1, 1) := by decide +kernel
theorem dX12_layFlows_2 : decode cX12_layFlows 2 = .ok (.iload_n 1, 1) := by decide +kernel
theorem dX12_layFlows_3 : decode cX12_layFlows 3 = .ok (.bipush 7, 2) := by decide +kernel
theorem dX12_layFlows_5 : decode cX12_layFlows 5 = .ok (.if_icmp .ge 24, 3) := by decide +kernel
theorem dX12_layFlows_8 : decode cX12_layFlows 8 = .ok (.aload_n 0, 1) := by decide +kernel
theorem dX12_layFlows_9 : decode cX12_layFlows 9 = .ok (.getfield 54, 3) := by decide +kernel
theorem dX12_layFlows_12 : decode cX12_layFlows 12 = .ok (.iload_n 1, 1) := by decide +kernel
theorem dX12_layFlows_13 : decode cX12_layFlows 13 = .ok (.aload_n 0, 1) := by decide +kernel
theorem dX12_layFlows_14 : decode cX12_layFlows 14 = .ok (.getfield 13, 3) := by decide +kernel
theorem dX12_layFlows_17 : decode cX12_layFlows 17 = .ok (.bipush 110, 2) := by decide +kernel
theorem dX12_layFlows_19 : decode cX12_layFlows 19 = .ok (.iload_n 1, 1) := by decide +kernel
theorem dX12_layFlows_20 : decode cX12_layFlows 20 = .ok (.iadd, 1) := by decide +kernel
theorem dX12_layFlows_21 : decode cX12_layFlows 21 = .ok (.iaload, 1) := by decide +kernel
theorem dX12_layFlows_22 : decode cX12_layFlows 22 = .ok (.iastore, 1) := by decide +kernel
theorem dX12_layFlows_23 : decode cX12_layFlows 23 = .ok (.iinc 1 1, 3) := by decide +kernel
theorem dX12_layFlows_26 : decode cX12_layFlows 26 = .ok (.goto (-24), 3) := by decide +kernel
theorem dX12_layFlows_29 : decode cX12_layFlows 29 = .ok (.return_, 1) := by decide +kernel
theorem dX12_hour_0 : decode cX12_hour 0 = .ok (.iconst 0, 1) := by decide +kernel
theorem dX12_hour_1 : decode cX12_hour 1 = .ok (.istore 4, 2) := by decide +kernel
theorem dX12_hour_3 : decode cX12_hour 3 = .ok (.iload 4, 2) := by decide +kernel
theorem dX12_hour_5 : decode cX12_hour 5 = .ok (.aload_n 0, 1) := by decide +kernel
theorem dX12_hour_6 : decode cX12_hour 6 = .ok (.invokevirtual 196, 3) := by decide +kernel
theorem dX12_hour_9 : decode cX12_hour 9 = .ok (.if_icmp .ge 94, 3) := by decide +kernel
theorem dX12_hour_12 : decode cX12_hour 12 = .ok (.aload_n 0, 1) := by decide +kernel
theorem dX12_hour_13 : decode cX12_hour 13 = .ok (.getfield 39, 3) := by decide +kernel
theorem dX12_hour_16 : decode cX12_hour 16 = .ok (.iload_n 1, 1) := by decide +kernel
theorem dX12_hour_17 : decode cX12_hour 17 = .ok (.iaload, 1) := by decide +kernel
theorem dX12_hour_18 : decode cX12_hour 18 = .ok (.iload 4, 2) := by decide +kernel
theorem dX12_hour_20 : decode cX12_hour 20 = .ok (.invokestatic 220, 3) := by decide +kernel
theorem dX12_hour_23 : decode cX12_hour 23 = .ok (.ifCond .ne 6, 3) := by decide +kernel
theorem dX12_hour_26 : decode cX12_hour 26 = .ok (.goto 71, 3) := by decide +kernel
theorem dX12_hour_29 : decode cX12_hour 29 = .ok (.aload_n 0, 1) := by decide +kernel
theorem dX12_hour_30 : decode cX12_hour 30 = .ok (.getfield 42, 3) := by decide +kernel
theorem dX12_hour_33 : decode cX12_hour 33 = .ok (.iconst 4, 1) := by decide +kernel
theorem dX12_hour_34 : decode cX12_hour 34 = .ok (.aload_n 0, 1) := by decide +kernel
theorem dX12_hour_35 : decode cX12_hour 35 = .ok (.getfield 13, 3) := by decide +kernel
theorem dX12_hour_38 : decode cX12_hour 38 = .ok (.bipush 30, 2) := by decide +kernel
theorem dX12_hour_40 : decode cX12_hour 40 = .ok (.bipush 6, 2) := by decide +kernel
theorem dX12_hour_42 : decode cX12_hour 42 = .ok (.iload 4, 2) := by decide +kernel
theorem dX12_hour_44 : decode cX12_hour 44 = .ok (.imul, 1) := by decide +kernel
theorem dX12_hour_45 : decode cX12_hour 45 = .ok (.iadd, 1) := by decide +kernel
theorem dX12_hour_46 : decode cX12_hour 46 = .ok (.iaload, 1) := by decide +kernel
theorem dX12_hour_47 : decode cX12_hour 47 = .ok (.imul, 1) := by decide +kernel
theorem dX12_hour_48 : decode cX12_hour 48 = .ok (.iload_n 2, 1) := by decide +kernel
theorem dX12_hour_49 : decode cX12_hour 49 = .ok (.iadd, 1) := by decide +kernel
theorem dX12_hour_50 : decode cX12_hour 50 = .ok (.dup2, 1) := by decide +kernel
theorem dX12_hour_51 : decode cX12_hour 51 = .ok (.iaload, 1) := by decide +kernel
theorem dX12_hour_52 : decode cX12_hour 52 = .ok (.aload_n 0, 1) := by decide +kernel
theorem dX12_hour_53 : decode cX12_hour 53 = .ok (.getfield 13, 3) := by decide +kernel
theorem dX12_hour_56 : decode cX12_hour 56 = .ok (.bipush 30, 2) := by decide +kernel
theorem dX12_hour_58 : decode cX12_hour 58 = .ok (.bipush 6, 2) := by decide +kernel
theorem dX12_hour_60 : decode cX12_hour 60 = .ok (.iload 4, 2) := by decide +kernel
theorem dX12_hour_62 : decode cX12_hour 62 = .ok (.imul, 1) := by decide +kernel
theorem dX12_hour_63 : decode cX12_hour 63 = .ok (.iadd, 1) := by decide +kernel
theorem dX12_hour_64 : decode cX12_hour 64 = .ok (.iconst 2, 1) := by decide +kernel
theorem dX12_hour_65 : decode cX12_hour 65 = .ok (.iadd, 1) := by decide +kernel
theorem dX12_hour_66 : decode cX12_hour 66 = .ok (.iload_n 2, 1) := by decide +kernel
theorem dX12_hour_67 : decode cX12_hour 67 = .ok (.iadd, 1) := by decide +kernel
theorem dX12_hour_68 : decode cX12_hour 68 = .ok (.iaload, 1) := by decide +kernel
theorem dX12_hour_69 : decode cX12_hour 69 = .ok (.iadd, 1) := by decide +kernel
theorem dX12_hour_70 : decode cX12_hour 70 = .ok (.iastore, 1) := by decide +kernel
theorem dX12_hour_71 : decode cX12_hour 71 = .ok (.aload_n 0, 1) := by decide +kernel
theorem dX12_hour_72 : decode cX12_hour 72 = .ok (.getfield 51, 3) := by decide +kernel
theorem dX12_hour_75 : decode cX12_hour 75 = .ok (.iload_n 2, 1) := by decide +kernel
theorem dX12_hour_76 : decode cX12_hour 76 = .ok (.dup2, 1) := by decide +kernel
theorem dX12_hour_77 : decode cX12_hour 77 = .ok (.iaload, 1) := by decide +kernel
theorem dX12_hour_78 : decode cX12_hour 78 = .ok (.aload_n 0, 1) := by decide +kernel
theorem dX12_hour_79 : decode cX12_hour 79 = .ok (.getfield 13, 3) := by decide +kernel
theorem dX12_hour_82 : decode cX12_hour 82 = .ok (.bipush 30, 2) := by decide +kernel
theorem dX12_hour_84 : decode cX12_hour 84 = .ok (.bipush 6, 2) := by decide +kernel
theorem dX12_hour_86 : decode cX12_hour 86 = .ok (.iload 4, 2) := by decide +kernel
theorem dX12_hour_88 : decode cX12_hour 88 = .ok (.imul, 1) := by decide +kernel
theorem dX12_hour_89 : decode cX12_hour 89 = .ok (.iadd, 1) := by decide +kernel
theorem dX12_hour_90 : decode cX12_hour 90 = .ok (.iconst 2, 1) := by decide +kernel
theorem dX12_hour_91 : decode cX12_hour 91 = .ok (.iadd, 1) := by decide +kernel
theorem dX12_hour_92 : decode cX12_hour 92 = .ok (.iload_n 2, 1) := by decide +kernel
theorem dX12_hour_93 : decode cX12_hour 93 = .ok (.iadd, 1) := by decide +kernel
theorem dX12_hour_94 : decode cX12_hour 94 = .ok (.iaload, 1) := by decide +kernel
theorem dX12_hour_95 : decode cX12_hour 95 = .ok (.iadd, 1) := by decide +kernel
theorem dX12_hour_96 : decode cX12_hour 96 = .ok (.iastore, 1) := by decide +kernel
theorem dX12_hour_97 : decode cX12_hour 97 = .ok (.iinc 4 1, 3) := by decide +kernel
theorem dX12_hour_100 : decode cX12_hour 100 = .ok (.goto (-97), 3) := by decide +kernel
theorem dX12_hour_103 : decode cX12_hour 103 = .ok (.iload_n 1, 1) := by decide +kernel
theorem dX12_hour_104 : decode cX12_hour 104 = .ok (.ifCond .ne 39, 3) := by decide +kernel
theorem dX12_hour_107 : decode cX12_hour 107 = .ok (.aload_n 0, 1) := by decide +kernel
theorem dX12_hour_108 : decode cX12_hour 108 = .ok (.getfield 63, 3) := by decide +kernel
theorem dX12_hour_111 : decode cX12_hour 111 = .ok (.iconst (-1), 1) := by decide +kernel
theorem dX12_hour_112 : decode cX12_hour 112 = .ok (.if_icmp .eq 31, 3) := by decide +kernel
theorem dX12_hour_115 : decode cX12_hour 115 = .ok (.iload_n 2, 1) := by decide +kernel
theorem dX12_hour_116 : decode cX12_hour 116 = .ok (.aload_n 0, 1) := by decide +kernel
theorem dX12_hour_117 : decode cX12_hour 117 = .ok (.getfield 293, 3) := by decide +kernel
theorem dX12_hour_120 : decode cX12_hour 120 = .ok (.if_icmp .ne 23, 3) := by decide +kernel
theorem dX12_hour_123 : decode cX12_hour 123 = .ok (.aload_n 0, 1) := by decide +kernel
theorem dX12_hour_124 : decode cX12_hour 124 = .ok (.getfield 42, 3) := by decide +kernel
theorem dX12_hour_127 : decode cX12_hour 127 = .ok (.iconst 4, 1) := by decide +kernel
theorem dX12_hour_128 : decode cX12_hour 128 = .ok (.aload_n 0, 1) := by decide +kernel
theorem dX12_hour_129 : decode cX12_hour 129 = .ok (.getfield 63, 3) := by decide +kernel
theorem dX12_hour_132 : decode cX12_hour 132 = .ok (.imul, 1) := by decide +kernel
theorem dX12_hour_133 : decode cX12_hour 133 = .ok (.iload_n 2, 1) := by decide +kernel
theorem dX12_hour_134 : decode cX12_hour 134 = .ok (.iadd, 1) := by decide +kernel
theorem dX12_hour_135 : decode cX12_hour 135 = .ok (.dup2, 1) := by decide +kernel
theorem dX12_hour_136 : decode cX12_hour 136 = .ok (.iaload, 1) := by decide +kernel
theorem dX12_hour_137 : decode cX12_hour 137 = .ok (.aload_n 0, 1) := by decide +kernel
theorem dX12_hour_138 : decode cX12_hour 138 = .ok (.getfield 296, 3) := by decide +kernel
theorem dX12_hour_141 : decode cX12_hour 141 = .ok (.iadd, 1) := by decide +kernel
theorem dX12_hour_142 : decode cX12_hour 142 = .ok (.iastore, 1) := by decide +kernel
theorem dX12_hour_143 : decode cX12_hour 143 = .ok (.aload_n 0, 1) := by decide +kernel
theorem dX12_hour_144 : decode cX12_hour 144 = .ok (.getfield 48, 3) := by decide +kernel
theorem dX12_hour_147 : decode cX12_hour 147 = .ok (.iconst 4, 1) := by decide +kernel
theorem dX12_hour_148 : decode cX12_hour 148 = .ok (.iload_n 1, 1) := by decide +kernel
theorem dX12_hour_149 : decode cX12_hour 149 = .ok (.imul, 1) := by decide +kernel
theorem dX12_hour_150 : decode cX12_hour 150 = .ok (.iload_n 2, 1) := by decide +kernel
theorem dX12_hour_151 : decode cX12_hour 151 = .ok (.iadd, 1) := by decide +kernel
theorem dX12_hour_152 : decode cX12_hour 152 = .ok (.iconst 0, 1) := by decide +kernel
theorem dX12_hour_153 : decode cX12_hour 153 = .ok (.iastore, 1) := by decide +kernel
theorem dX12_hour_154 : decode cX12_hour 154 = .ok (.aload_n 0, 1) := by decide +kernel
theorem dX12_hour_155 : decode cX12_hour 155 = .ok (.invokevirtual 190, 3) := by decide +kernel
theorem dX12_hour_158 : decode cX12_hour 158 = .ok (.iconst 1, 1) := by decide +kernel
theorem dX12_hour_159 : decode cX12_hour 159 = .ok (.isub, 1) := by decide +kernel
theorem dX12_hour_160 : decode cX12_hour 160 = .ok (.istore 4, 2) := by decide +kernel
theorem dX12_hour_162 : decode cX12_hour 162 = .ok (.iload 4, 2) := by decide +kernel
theorem dX12_hour_164 : decode cX12_hour 164 = .ok (.ifCond .lt 160, 3) := by decide +kernel
theorem dX12_hour_167 : decode cX12_hour 167 = .ok (.iconst 4, 1) := by decide +kernel
theorem dX12_hour_168 : decode cX12_hour 168 = .ok (.iload 4, 2) := by decide +kernel
theorem dX12_hour_170 : decode cX12_hour 170 = .ok (.imul, 1) := by decide +kernel
theorem dX12_hour_171 : decode cX12_hour 171 = .ok (.iload_n 2, 1) := by decide +kernel
theorem dX12_hour_172 : decode cX12_hour 172 = .ok (.iadd, 1) := by decide +kernel
theorem dX12_hour_173 : decode cX12_hour 173 = .ok (.istore 5, 2) := by decide +kernel
theorem dX12_hour_175 : decode cX12_hour 175 = .ok (.aload_n 0, 1) := by decide +kernel
theorem dX12_hour_176 : decode cX12_hour 176 = .ok (.getfield 13, 3) := by decide +kernel
theorem dX12_hour_179 : decode cX12_hour 179 = .ok (.bipush 10, 2) := by decide +kernel
theorem dX12_hour_181 : decode cX12_hour 181 = .ok (.iconst 2, 1) := by decide +kernel
theorem dX12_hour_182 : decode cX12_hour 182 = .ok (.iload 4, 2) := by decide +kernel
theorem dX12_hour_184 : decode cX12_hour 184 = .ok (.imul, 1) := by decide +kernel
theorem dX12_hour_185 : decode cX12_hour 185 = .ok (.iadd, 1) := by decide +kernel
theorem dX12_hour_186 : decode cX12_hour 186 = .ok (.iaload, 1) := by decide +kernel
theorem dX12_hour_187 : decode cX12_hour 187 = .ok (.istore 6, 2) := by decide +kernel
theorem dX12_hour_189 : decode cX12_hour 189 = .ok (.iload_n 3, 1) := by decide +kernel
theorem dX12_hour_190 : decode cX12_hour 190 = .ok (.aload_n 0, 1) := by decide +kernel
theorem dX12_hour_191 : decode cX12_hour 191 = .ok (.getfield 13, 3) := by decide +kernel
theorem dX12_hour_194 : decode cX12_hour 194 = .ok (.iconst 5, 1) := by decide +kernel
theorem dX12_hour_195 : decode cX12_hour 195 = .ok (.iaload, 1) := by decide +kernel
theorem dX12_hour_196 : decode cX12_hour 196 = .ok (.if_icmp .lt 38, 3) := by decide +kernel
theorem dX12_hour_199 : decode cX12_hour 199 = .ok (.aload_n 0, 1) := by decide +kernel
theorem dX12_hour_200 : decode cX12_hour 200 = .ok (.getfield 45, 3) := by decide +kernel
theorem dX12_hour_203 : decode cX12_hour 203 = .ok (.iload 5, 2) := by decide +kernel
theorem dX12_hour_205 : decode cX12_hour 205 = .ok (.iaload, 1) := by decide +kernel
theorem dX12_hour_206 : decode cX12_hour 206 = .ok (.iconst 2, 1) := by decide +kernel
theorem dX12_hour_207 : decode cX12_hour 207 = .ok (.idiv, 1) := by decide +kernel
theorem dX12_hour_208 : decode cX12_hour 208 = .ok (.istore 7, 2) := by decide +kernel
theorem dX12_hour_210 : decode cX12_hour 210 = .ok (.aload_n 0, 1) := by decide +kernel
theorem dX12_hour_211 : decode cX12_hour 211 = .ok (.getfield 45, 3) := by decide +kernel
theorem dX12_hour_214 : decode cX12_hour 214 = .ok (.iload 5, 2) := by decide +kernel
theorem dX12_hour_216 : decode cX12_hour 216 = .ok (.dup2, 1) := by decide +kernel
theorem dX12_hour_217 : decode cX12_hour 217 = .ok (.iaload, 1) := by decide +kernel
theorem dX12_hour_218 : decode cX12_hour 218 = .ok (.iload 7, 2) := by decide +kernel
theorem dX12_hour_220 : decode cX12_hour 220 = .ok (.isub, 1) := by decide +kernel
theorem dX12_hour_221 : decode cX12_hour 221 = .ok (.iastore, 1) := by decide +kernel
theorem dX12_hour_222 : decode cX12_hour 222 = .ok (.aload_n 0, 1) := by decide +kernel
theorem dX12_hour_223 : decode cX12_hour 223 = .ok (.getfield 42, 3) := by decide +kernel
theorem dX12_hour_226 : decode cX12_hour 226 = .ok (.iload 5, 2) := by decide +kernel
theorem dX12_hour_228 : decode cX12_hour 228 = .ok (.dup2, 1) := by decide +kernel
theorem dX12_hour_229 : decode cX12_hour 229 = .ok (.iaload, 1) := by decide +kernel
theorem dX12_hour_230 : decode cX12_hour 230 = .ok (.iload 7, 2) := by decide +kernel
theorem dX12_hour_232 : decode cX12_hour 232 = .ok (.iadd, 1) := by decide +kernel
theorem dX12_hour_233 : decode cX12_hour 233 = .ok (.iastore, 1) := by decide +kernel
theorem dX12_hour_234 : decode cX12_hour 234 = .ok (.aload_n 0, 1) := by decide +kernel
theorem dX12_hour_235 : decode cX12_hour 235 = .ok (.getfield 42, 3) := by decide +kernel
theorem dX12_hour_238 : decode cX12_hour 238 = .ok (.iload 5, 2) := by decide +kernel
theorem dX12_hour_240 : decode cX12_hour 240 = .ok (.iaload, 1) := by decide +kernel
theorem dX12_hour_241 : decode cX12_hour 241 = .ok (.i2l, 1) := by decide +kernel
theorem dX12_hour_242 : decode cX12_hour 242 = .ok (.iload_n 3, 1) := by decide +kernel
theorem dX12_hour_243 : decode cX12_hour 243 = .ok (.iload 6, 2) := by decide +kernel
theorem dX12_hour_245 : decode cX12_hour 245 = .ok (.if_icmp .ge 7, 3) := by decide +kernel
theorem dX12_hour_248 : decode cX12_hour 248 = .ok (.iload_n 3, 1) := by decide +kernel
theorem dX12_hour_249 : decode cX12_hour 249 = .ok (.goto 5, 3) := by decide +kernel
theorem dX12_hour_252 : decode cX12_hour 252 = .ok (.iload 6, 2) := by decide +kernel
theorem dX12_hour_254 : decode cX12_hour 254 = .ok (.i2l, 1) := by decide +kernel
theorem dX12_hour_255 : decode cX12_hour 255 = .ok (.lmul, 1) := by decide +kernel
theorem dX12_hour_256 : decode cX12_hour 256 = .ok (.iload 6, 2) := by decide +kernel
theorem dX12_hour_258 : decode cX12_hour 258 = .ok (.i2l, 1) := by decide +kernel
theorem dX12_hour_259 : decode cX12_hour 259 = .ok (.ldiv, 1) := by decide +kernel
theorem dX12_hour_260 : decode cX12_hour 260 = .ok (.l2i, 1) := by decide +kernel
theorem dX12_hour_261 : decode cX12_hour 261 = .ok (.istore 7, 2) := by decide +kernel
theorem dX12_hour_263 : decode cX12_hour 263 = .ok (.aload_n 0, 1) := by decide +kernel
theorem dX12_hour_264 : decode cX12_hour 264 = .ok (.getfield 42, 3) := by decide +kernel
theorem dX12_hour_267 : decode cX12_hour 267 = .ok (.iload 5, 2) := by decide +kernel
theorem dX12_hour_269 : decode cX12_hour 269 = .ok (.dup2, 1) := by decide +kernel
theorem dX12_hour_270 : decode cX12_hour 270 = .ok (.iaload, 1) := by decide +kernel
theorem dX12_hour_271 : decode cX12_hour 271 = .ok (.iload 7, 2) := by decide +kernel
theorem dX12_hour_273 : decode cX12_hour 273 = .ok (.isub, 1) := by decide +kernel
theorem dX12_hour_274 : decode cX12_hour 274 = .ok (.iastore, 1) := by decide +kernel
theorem dX12_hour_275 : decode cX12_hour 275 = .ok (.iload 4, 2) := by decide +kernel
theorem dX12_hour_277 : decode cX12_hour 277 = .ok (.aload_n 0, 1) := by decide +kernel
theorem dX12_hour_278 : decode cX12_hour 278 = .ok (.invokevirtual 190, 3) := by decide +kernel
theorem dX12_hour_281 : decode cX12_hour 281 = .ok (.iconst 1, 1) := by decide +kernel
theorem dX12_hour_282 : decode cX12_hour 282 = .ok (.isub, 1) := by decide +kernel
theorem dX12_hour_283 : decode cX12_hour 283 = .ok (.if_icmp .ne 21, 3) := by decide +kernel
theorem dX12_hour_286 : decode cX12_hour 286 = .ok (.aload_n 0, 1) := by decide +kernel
theorem dX12_hour_287 : decode cX12_hour 287 = .ok (.getfield 48, 3) := by decide +kernel
theorem dX12_hour_290 : decode cX12_hour 290 = .ok (.iconst 4, 1) := by decide +kernel
theorem dX12_hour_291 : decode cX12_hour 291 = .ok (.iload_n 1, 1) := by decide +kernel
theorem dX12_hour_292 : decode cX12_hour 292 = .ok (.imul, 1) := by decide +kernel
theorem dX12_hour_293 : decode cX12_hour 293 = .ok (.iload_n 2, 1) := by decide +kernel
theorem dX12_hour_294 : decode cX12_hour 294 = .ok (.iadd, 1) := by decide +kernel
theorem dX12_hour_295 : decode cX12_hour 295 = .ok (.dup2, 1) := by decide +kernel
theorem dX12_hour_296 : decode cX12_hour 296 = .ok (.iaload, 1) := by decide +kernel
theorem dX12_hour_297 : decode cX12_hour 297 = .ok (.iload 7, 2) := by decide +kernel
theorem dX12_hour_299 : decode cX12_hour 299 = .ok (.iadd, 1) := by decide +kernel
theorem dX12_hour_300 : decode cX12_hour 300 = .ok (.iastore, 1) := by decide +kernel
theorem dX12_hour_301 : decode cX12_hour 301 = .ok (.goto 17, 3) := by decide +kernel
theorem dX12_hour_304 : decode cX12_hour 304 = .ok (.aload_n 0, 1) := by decide +kernel
theorem dX12_hour_305 : decode cX12_hour 305 = .ok (.getfield 42, 3) := by decide +kernel
theorem dX12_hour_308 : decode cX12_hour 308 = .ok (.iload 5, 2) := by decide +kernel
theorem dX12_hour_310 : decode cX12_hour 310 = .ok (.iconst 4, 1) := by decide +kernel
theorem dX12_hour_311 : decode cX12_hour 311 = .ok (.iadd, 1) := by decide +kernel
theorem dX12_hour_312 : decode cX12_hour 312 = .ok (.dup2, 1) := by decide +kernel
theorem dX12_hour_313 : decode cX12_hour 313 = .ok (.iaload, 1) := by decide +kernel
theorem dX12_hour_314 : decode cX12_hour 314 = .ok (.iload 7, 2) := by decide +kernel
theorem dX12_hour_316 : decode cX12_hour 316 = .ok (.iadd, 1) := by decide +kernel
theorem dX12_hour_317 : decode cX12_hour 317 = .ok (.iastore, 1) := by decide +kernel
theorem dX12_hour_318 : decode cX12_hour 318 = .ok (.iinc 4 (-1), 3) := by decide +kernel
theorem dX12_hour_321 : decode cX12_hour 321 = .ok (.goto (-159), 3) := by decide +kernel
theorem dX12_hour_324 : decode cX12_hour 324 = .ok (.iconst 0, 1) := by decide +kernel
theorem dX12_hour_325 : decode cX12_hour 325 = .ok (.istore 4, 2) := by decide +kernel
theorem dX12_hour_327 : decode cX12_hour 327 = .ok (.iload 4, 2) := by decide +kernel
theorem dX12_hour_329 : decode cX12_hour 329 = .ok (.aload_n 0, 1) := by decide +kernel
theorem dX12_hour_330 : decode cX12_hour 330 = .ok (.invokevirtual 190, 3) := by decide +kernel
theorem dX12_hour_333 : decode cX12_hour 333 = .ok (.if_icmp .ge 110, 3) := by decide +kernel
theorem dX12_hour_336 : decode cX12_hour 336 = .ok (.iconst 4, 1) := by decide +kernel
theorem dX12_hour_337 : decode cX12_hour 337 = .ok (.iload 4, 2) := by decide +kernel
theorem dX12_hour_339 : decode cX12_hour 339 = .ok (.imul, 1) := by decide +kernel
theorem dX12_hour_340 : decode cX12_hour 340 = .ok (.iload_n 2, 1) := by decide +kernel
theorem dX12_hour_341 : decode cX12_hour 341 = .ok (.iadd, 1) := by decide +kernel
theorem dX12_hour_342 : decode cX12_hour 342 = .ok (.istore 5, 2) := by decide +kernel
theorem dX12_hour_344 : decode cX12_hour 344 = .ok (.aload_n 0, 1) := by decide +kernel
theorem dX12_hour_345 : decode cX12_hour 345 = .ok (.getfield 42, 3) := by decide +kernel
theorem dX12_hour_348 : decode cX12_hour 348 = .ok (.iload 5, 2) := by decide +kernel
theorem dX12_hour_350 : decode cX12_hour 350 = .ok (.iaload, 1) := by decide +kernel
theorem dX12_hour_351 : decode cX12_hour 351 = .ok (.i2l, 1) := by decide +kernel
theorem dX12_hour_352 : decode cX12_hour 352 = .ok (.aload_n 0, 1) := by decide +kernel
theorem dX12_hour_353 : decode cX12_hour 353 = .ok (.getfield 13, 3) := by decide +kernel
theorem dX12_hour_356 : decode cX12_hour 356 = .ok (.bipush 10, 2) := by decide +kernel
theorem dX12_hour_358 : decode cX12_hour 358 = .ok (.iconst 2, 1) := by decide +kernel
theorem dX12_hour_359 : decode cX12_hour 359 = .ok (.iload 4, 2) := by decide +kernel
theorem dX12_hour_361 : decode cX12_hour 361 = .ok (.imul, 1) := by decide +kernel
theorem dX12_hour_362 : decode cX12_hour 362 = .ok (.iadd, 1) := by decide +kernel
theorem dX12_hour_363 : decode cX12_hour 363 = .ok (.iconst 1, 1) := by decide +kernel
theorem dX12_hour_364 : decode cX12_hour 364 = .ok (.iadd, 1) := by decide +kernel
theorem dX12_hour_365 : decode cX12_hour 365 = .ok (.iaload, 1) := by decide +kernel
theorem dX12_hour_366 : decode cX12_hour 366 = .ok (.i2l, 1) := by decide +kernel
theorem dX12_hour_367 : decode cX12_hour 367 = .ok (.lmul, 1) := by decide +kernel
theorem dX12_hour_368 : decode cX12_hour 368 = .ok (.ldc2_w 299, 3) := by decide +kernel
theorem dX12_hour_371 : decode cX12_hour 371 = .ok (.ldiv, 1) := by decide +kernel
theorem dX12_hour_372 : decode cX12_hour 372 = .ok (.l2i, 1) := by decide +kernel
theorem dX12_hour_373 : decode cX12_hour 373 = .ok (.istore 6, 2) := by decide +kernel
theorem dX12_hour_375 : decode cX12_hour 375 = .ok (.aload_n 0, 1) := by decide +kernel
theorem dX12_hour_376 : decode cX12_hour 376 = .ok (.getfield 42, 3) := by decide +kernel
theorem dX12_hour_379 : decode cX12_hour 379 = .ok (.iload 5, 2) := by decide +kernel
theorem dX12_hour_381 : decode cX12_hour 381 = .ok (.dup2, 1) := by decide +kernel
theorem dX12_hour_382 : decode cX12_hour 382 = .ok (.iaload, 1) := by decide +kernel
theorem dX12_hour_383 : decode cX12_hour 383 = .ok (.iload 6, 2) := by decide +kernel
theorem dX12_hour_385 : decode cX12_hour 385 = .ok (.isub, 1) := by decide +kernel
theorem dX12_hour_386 : decode cX12_hour 386 = .ok (.iastore, 1) := by decide +kernel
theorem dX12_hour_387 : decode cX12_hour 387 = .ok (.aload_n 0, 1) := by decide +kernel
theorem dX12_hour_388 : decode cX12_hour 388 = .ok (.getfield 45, 3) := by decide +kernel
theorem dX12_hour_391 : decode cX12_hour 391 = .ok (.iload 5, 2) := by decide +kernel
theorem dX12_hour_393 : decode cX12_hour 393 = .ok (.dup2, 1) := by decide +kernel
theorem dX12_hour_394 : decode cX12_hour 394 = .ok (.iaload, 1) := by decide +kernel
theorem dX12_hour_395 : decode cX12_hour 395 = .ok (.iload 6, 2) := by decide +kernel
theorem dX12_hour_397 : decode cX12_hour 397 = .ok (.iadd, 1) := by decide +kernel
theorem dX12_hour_398 : decode cX12_hour 398 = .ok (.iastore, 1) := by decide +kernel
theorem dX12_hour_399 : decode cX12_hour 399 = .ok (.aload_n 0, 1) := by decide +kernel
theorem dX12_hour_400 : decode cX12_hour 400 = .ok (.getfield 57, 3) := by decide +kernel
theorem dX12_hour_403 : decode cX12_hour 403 = .ok (.bipush 40, 2) := by decide +kernel
theorem dX12_hour_405 : decode cX12_hour 405 = .ok (.iload_n 1, 1) := by decide +kernel
theorem dX12_hour_406 : decode cX12_hour 406 = .ok (.imul, 1) := by decide +kernel
theorem dX12_hour_407 : decode cX12_hour 407 = .ok (.iload 5, 2) := by decide +kernel
theorem dX12_hour_409 : decode cX12_hour 409 = .ok (.iadd, 1) := by decide +kernel
theorem dX12_hour_410 : decode cX12_hour 410 = .ok (.aload_n 0, 1) := by decide +kernel
theorem dX12_hour_411 : decode cX12_hour 411 = .ok (.getfield 42, 3) := by decide +kernel
theorem dX12_hour_414 : decode cX12_hour 414 = .ok (.iload 5, 2) := by decide +kernel
theorem dX12_hour_416 : decode cX12_hour 416 = .ok (.iaload, 1) := by decide +kernel
theorem dX12_hour_417 : decode cX12_hour 417 = .ok (.iastore, 1) := by decide +kernel
theorem dX12_hour_418 : decode cX12_hour 418 = .ok (.aload_n 0, 1) := by decide +kernel
theorem dX12_hour_419 : decode cX12_hour 419 = .ok (.getfield 60, 3) := by decide +kernel
theorem dX12_hour_422 : decode cX12_hour 422 = .ok (.bipush 40, 2) := by decide +kernel
theorem dX12_hour_424 : decode cX12_hour 424 = .ok (.iload_n 1, 1) := by decide +kernel
theorem dX12_hour_425 : decode cX12_hour 425 = .ok (.imul, 1) := by decide +kernel
theorem dX12_hour_426 : decode cX12_hour 426 = .ok (.iload 5, 2) := by decide +kernel
theorem dX12_hour_428 : decode cX12_hour 428 = .ok (.iadd, 1) := by decide +kernel
theorem dX12_hour_429 : decode cX12_hour 429 = .ok (.aload_n 0, 1) := by decide +kernel
theorem dX12_hour_430 : decode cX12_hour 430 = .ok (.getfield 45, 3) := by decide +kernel
theorem dX12_hour_433 : decode cX12_hour 433 = .ok (.iload 5, 2) := by decide +kernel
theorem dX12_hour_435 : decode cX12_hour 435 = .ok (.iaload, 1) := by decide +kernel
theorem dX12_hour_436 : decode cX12_hour 436 = .ok (.iastore, 1) := by decide +kernel
theorem dX12_hour_437 : decode cX12_hour 437 = .ok (.iinc 4 1, 3) := by decide +kernel
theorem dX12_hour_440 : decode cX12_hour 440 = .ok (.goto (-113), 3) := by decide +kernel
theorem dX12_hour_443 : decode cX12_hour 443 = .ok (.return_, 1) := by decide +kernel
theorem dX12_goWeek_0 : decode cX12_goWeek 0 = .ok (.iconst 0, 1) := by decide +kernel
theorem dX12_goWeek_1 : decode cX12_goWeek 1 = .ok (.istore_n 1, 1) := by decide +kernel
theorem dX12_goWeek_2 : decode cX12_goWeek 2 = .ok (.iload_n 1, 1) := by decide +kernel
theorem dX12_goWeek_3 : decode cX12_goWeek 3 = .ok (.bipush 40, 2) := by decide +kernel
theorem dX12_goWeek_5 : decode cX12_goWeek 5 = .ok (.if_icmp .ge 23, 3) := by decide +kernel
theorem dX12_goWeek_8 : decode cX12_goWeek 8 = .ok (.aload_n 0, 1) := by decide +kernel
theorem dX12_goWeek_9 : decode cX12_goWeek 9 = .ok (.getfield 42, 3) := by decide +kernel
theorem dX12_goWeek_12 : decode cX12_goWeek 12 = .ok (.iload_n 1, 1) := by decide +kernel
theorem dX12_goWeek_13 : decode cX12_goWeek 13 = .ok (.iconst 0, 1) := by decide +kernel
theorem dX12_goWeek_14 : decode cX12_goWeek 14 = .ok (.iastore, 1) := by decide +kernel
theorem dX12_goWeek_15 : decode cX12_goWeek 15 = .ok (.aload_n 0, 1) := by decide +kernel
theorem dX12_goWeek_16 : decode cX12_goWeek 16 = .ok (.getfield 45, 3) := by decide +kernel
theorem dX12_goWeek_19 : decode cX12_goWeek 19 = .ok (.iload_n 1, 1) := by decide +kernel
theorem dX12_goWeek_20 : decode cX12_goWeek 20 = .ok (.iconst 0, 1) := by decide +kernel
theorem dX12_goWeek_21 : decode cX12_goWeek 21 = .ok (.iastore, 1) := by decide +kernel
theorem dX12_goWeek_22 : decode cX12_goWeek 22 = .ok (.iinc 1 1, 3) := by decide +kernel
theorem dX12_goWeek_25 : decode cX12_goWeek 25 = .ok (.goto (-23), 3) := by decide +kernel
theorem dX12_goWeek_28 : decode cX12_goWeek 28 = .ok (.iconst 0, 1) := by decide +kernel
theorem dX12_goWeek_29 : decode cX12_goWeek 29 = .ok (.istore_n 1, 1) := by decide +kernel
theorem dX12_goWeek_30 : decode cX12_goWeek 30 = .ok (.iload_n 1, 1) := by decide +kernel
theorem dX12_goWeek_31 : decode cX12_goWeek 31 = .ok (.iconst 4, 1) := by decide +kernel
theorem dX12_goWeek_32 : decode cX12_goWeek 32 = .ok (.if_icmp .ge 16, 3) := by decide +kernel
theorem dX12_goWeek_35 : decode cX12_goWeek 35 = .ok (.aload_n 0, 1) := by decide +kernel
theorem dX12_goWeek_36 : decode cX12_goWeek 36 = .ok (.getfield 51, 3) := by decide +kernel
theorem dX12_goWeek_39 : decode cX12_goWeek 39 = .ok (.iload_n 1, 1) := by decide +kernel
theorem dX12_goWeek_40 : decode cX12_goWeek 40 = .ok (.iconst 0, 1) := by decide +kernel
theorem dX12_goWeek_41 : decode cX12_goWeek 41 = .ok (.iastore, 1) := by decide +kernel
theorem dX12_goWeek_42 : decode cX12_goWeek 42 = .ok (.iinc 1 1, 3) := by decide +kernel
theorem dX12_goWeek_45 : decode cX12_goWeek 45 = .ok (.goto (-15), 3) := by decide +kernel
theorem dX12_goWeek_48 : decode cX12_goWeek 48 = .ok (.iconst 0, 1) := by decide +kernel
theorem dX12_goWeek_49 : decode cX12_goWeek 49 = .ok (.istore_n 1, 1) := by decide +kernel
theorem dX12_goWeek_50 : decode cX12_goWeek 50 = .ok (.iload_n 1, 1) := by decide +kernel
theorem dX12_goWeek_51 : decode cX12_goWeek 51 = .ok (.sipush 168, 3) := by decide +kernel
theorem dX12_goWeek_54 : decode cX12_goWeek 54 = .ok (.if_icmp .ge 40, 3) := by decide +kernel
theorem dX12_goWeek_57 : decode cX12_goWeek 57 = .ok (.iconst 0, 1) := by decide +kernel
theorem dX12_goWeek_58 : decode cX12_goWeek 58 = .ok (.istore_n 2, 1) := by decide +kernel
theorem dX12_goWeek_59 : decode cX12_goWeek 59 = .ok (.iload_n 2, 1) := by decide +kernel
theorem dX12_goWeek_60 : decode cX12_goWeek 60 = .ok (.aload_n 0, 1) := by decide +kernel
theorem dX12_goWeek_61 : decode cX12_goWeek 61 = .ok (.invokevirtual 193, 3) := by decide +kernel
theorem dX12_goWeek_64 : decode cX12_goWeek 64 = .ok (.if_icmp .ge 24, 3) := by decide +kernel
theorem dX12_goWeek_67 : decode cX12_goWeek 67 = .ok (.aload_n 0, 1) := by decide +kernel
theorem dX12_goWeek_68 : decode cX12_goWeek 68 = .ok (.iload_n 1, 1) := by decide +kernel
theorem dX12_goWeek_69 : decode cX12_goWeek 69 = .ok (.iload_n 2, 1) := by decide +kernel
theorem dX12_goWeek_70 : decode cX12_goWeek 70 = .ok (.aload_n 0, 1) := by decide +kernel
theorem dX12_goWeek_71 : decode cX12_goWeek 71 = .ok (.getfield 54, 3) := by decide +kernel
theorem dX12_goWeek_74 : decode cX12_goWeek 74 = .ok (.iload_n 1, 1) := by decide +kernel
theorem dX12_goWeek_75 : decode cX12_goWeek 75 = .ok (.bipush 24, 2) := by decide +kernel
theorem dX12_goWeek_77 : decode cX12_goWeek 77 = .ok (.idiv, 1) := by decide +kernel
theorem dX12_goWeek_78 : decode cX12_goWeek 78 = .ok (.iaload, 1) := by decide +kernel
theorem dX12_goWeek_79 : decode cX12_goWeek 79 = .ok (.invokevirtual 301, 3) := by decide +kernel
theorem dX12_goWeek_82 : decode cX12_goWeek 82 = .ok (.iinc 2 1, 3) := by decide +kernel
theorem dX12_goWeek_85 : decode cX12_goWeek 85 = .ok (.goto (-26), 3) := by decide +kernel
theorem dX12_goWeek_88 : decode cX12_goWeek 88 = .ok (.iinc 1 1, 3) := by decide +kernel
theorem dX12_goWeek_91 : decode cX12_goWeek 91 = .ok (.goto (-41), 3) := by decide +kernel
theorem dX12_goWeek_94 : decode cX12_goWeek 94 = .ok (.return_, 1) := by decide +kernel
theorem dX12_week_0 : decode cX12_week 0 = .ok (.aload_n 0, 1) := by decide +kernel
theorem dX12_week_1 : decode cX12_week 1 = .ok (.invokevirtual 175, 3) := by decide +kernel
theorem dX12_week_4 : decode cX12_week 4 = .ok (.aload_n 0, 1) := by decide +kernel
theorem dX12_week_5 : decode cX12_week 5 = .ok (.iconst (-1), 1) := by decide +kernel
theorem dX12_week_6 : decode cX12_week 6 = .ok (.invokevirtual 304, 3) := by decide +kernel
theorem dX12_week_9 : decode cX12_week 9 = .ok (.aload_n 0, 1) := by decide +kernel
theorem dX12_week_10 : decode cX12_week 10 = .ok (.invokevirtual 307, 3) := by decide +kernel
theorem dX12_week_13 : decode cX12_week 13 = .ok (.aload_n 0, 1) := by decide +kernel
theorem dX12_week_14 : decode cX12_week 14 = .ok (.invokevirtual 310, 3) := by decide +kernel
theorem dX12_week_17 : decode cX12_week 17 = .ok (.return_, 1) := by decide +kernel
theorem dX12_shadeAt_0 : decode cX12_shadeAt 0 = .ok (.ldc2_w 313, 3) := by decide +kernel
theorem dX12_shadeAt_3 : decode cX12_shadeAt 3 = .ok (.aload_n 0, 1) := by decide +kernel
theorem dX12_shadeAt_4 : decode cX12_shadeAt 4 = .ok (.getfield 57, 3) := by decide +kernel
theorem dX12_shadeAt_7 : decode cX12_shadeAt 7 = .ok (.bipush 40, 2) := by decide +kernel
theorem dX12_shadeAt_9 : decode cX12_shadeAt 9 = .ok (.iload_n 1, 1) := by decide +kernel
theorem dX12_shadeAt_10 : decode cX12_shadeAt 10 = .ok (.imul, 1) := by decide +kernel
theorem dX12_shadeAt_11 : decode cX12_shadeAt 11 = .ok (.iconst 4, 1) := by decide +kernel
theorem dX12_shadeAt_12 : decode cX12_shadeAt 12 = .ok (.iload_n 2, 1) := by decide +kernel
theorem dX12_shadeAt_13 : decode cX12_shadeAt 13 = .ok (.imul, 1) := by decide +kernel
theorem dX12_shadeAt_14 : decode cX12_shadeAt 14 = .ok (.iadd, 1) := by decide +kernel
theorem dX12_shadeAt_15 : decode cX12_shadeAt 15 = .ok (.iload_n 3, 1) := by decide +kernel
theorem dX12_shadeAt_16 : decode cX12_shadeAt 16 = .ok (.iadd, 1) := by decide +kernel
theorem dX12_shadeAt_17 : decode cX12_shadeAt 17 = .ok (.iaload, 1) := by decide +kernel
theorem dX12_shadeAt_18 : decode cX12_shadeAt 18 = .ok (.i2l, 1) := by decide +kernel
theorem dX12_shadeAt_19 : decode cX12_shadeAt 19 = .ok (.lmul, 1) := by decide +kernel
theorem dX12_shadeAt_20 : decode cX12_shadeAt 20 = .ok (.aload_n 0, 1) := by decide +kernel
theorem dX12_shadeAt_21 : decode cX12_shadeAt 21 = .ok (.getfield 13, 3) := by decide +kernel
theorem dX12_shadeAt_24 : decode cX12_shadeAt 24 = .ok (.bipush 10, 2) := by decide +kernel
theorem dX12_shadeAt_26 : decode cX12_shadeAt 26 = .ok (.iconst 2, 1) := by decide +kernel
theorem dX12_shadeAt_27 : decode cX12_shadeAt 27 = .ok (.iload_n 2, 1) := by decide +kernel
theorem dX12_shadeAt_28 : decode cX12_shadeAt 28 = .ok (.imul, 1) := by decide +kernel
theorem dX12_shadeAt_29 : decode cX12_shadeAt 29 = .ok (.iadd, 1) := by decide +kernel
theorem dX12_shadeAt_30 : decode cX12_shadeAt 30 = .ok (.iaload, 1) := by decide +kernel
theorem dX12_shadeAt_31 : decode cX12_shadeAt 31 = .ok (.i2l, 1) := by decide +kernel
theorem dX12_shadeAt_32 : decode cX12_shadeAt 32 = .ok (.ldiv, 1) := by decide +kernel
theorem dX12_shadeAt_33 : decode cX12_shadeAt 33 = .ok (.l2i, 1) := by decide +kernel
theorem dX12_shadeAt_34 : decode cX12_shadeAt 34 = .ok (.ireturn, 1) := by decide +kernel
theorem dX12_isHarmed_0 : decode cX12_isHarmed 0 = .ok (.bipush 66, 2) := by decide +kernel
theorem dX12_isHarmed_2 : decode cX12_isHarmed 2 = .ok (.bipush 7, 2) := by decide +kernel
theorem dX12_isHarmed_4 : decode cX12_isHarmed 4 = .ok (.iload_n 1, 1) := by decide +kernel
theorem dX12_isHarmed_5 : decode cX12_isHarmed 5 = .ok (.imul, 1) := by decide +kernel
theorem dX12_isHarmed_6 : decode cX12_isHarmed 6 = .ok (.iadd, 1) := by decide +kernel
theorem dX12_isHarmed_7 : decode cX12_isHarmed 7 = .ok (.istore_n 3, 1) := by decide +kernel
theorem dX12_isHarmed_8 : decode cX12_isHarmed 8 = .ok (.iload_n 2, 1) := by decide +kernel
theorem dX12_isHarmed_9 : decode cX12_isHarmed 9 = .ok (.bipush 24, 2) := by decide +kernel
theorem dX12_isHarmed_11 : decode cX12_isHarmed 11 = .ok (.irem, 1) := by decide +kernel
theorem dX12_isHarmed_12 : decode cX12_isHarmed 12 = .ok (.aload_n 0, 1) := by decide +kernel
theorem dX12_isHarmed_13 : decode cX12_isHarmed 13 = .ok (.getfield 13, 3) := by decide +kernel
theorem dX12_isHarmed_16 : decode cX12_isHarmed 16 = .ok (.iload_n 3, 1) := by decide +kernel
theorem dX12_isHarmed_17 : decode cX12_isHarmed 17 = .ok (.iconst 1, 1) := by decide +kernel
theorem dX12_isHarmed_18 : decode cX12_isHarmed 18 = .ok (.iadd, 1) := by decide +kernel
theorem dX12_isHarmed_19 : decode cX12_isHarmed 19 = .ok (.iaload, 1) := by decide +kernel
theorem dX12_isHarmed_20 : decode cX12_isHarmed 20 = .ok (.if_icmp .lt 18, 3) := by decide +kernel
theorem dX12_isHarmed_23 : decode cX12_isHarmed 23 = .ok (.iload_n 2, 1) := by decide +kernel
theorem dX12_isHarmed_24 : decode cX12_isHarmed 24 = .ok (.bipush 24, 2) := by decide +kernel
theorem dX12_isHarmed_26 : decode cX12_isHarmed 26 = .ok (.irem, 1) := by decide +kernel
theorem dX12_isHarmed_27 : decode cX12_isHarmed 27 = .ok (.aload_n 0, 1) := by decide +kernel
theorem dX12_isHarmed_28 : decode cX12_isHarmed 28 = .ok (.getfield 13, 3) := by decide +kernel
theorem dX12_isHarmed_31 : decode cX12_isHarmed 31 = .ok (.iload_n 3, 1) := by decide +kernel
theorem dX12_isHarmed_32 : decode cX12_isHarmed 32 = .ok (.iconst 2, 1) := by decide +kernel
theorem dX12_isHarmed_33 : decode cX12_isHarmed 33 = .ok (.iadd, 1) := by decide +kernel
theorem dX12_isHarmed_34 : decode cX12_isHarmed 34 = .ok (.iaload, 1) := by decide +kernel
theorem dX12_isHarmed_35 : decode cX12_isHarmed 35 = .ok (.if_icmp .lt 5, 3) := by decide +kernel
theorem dX12_isHarmed_38 : decode cX12_isHarmed 38 = .ok (.iconst 0, 1) := by decide +kernel
theorem dX12_isHarmed_39 : decode cX12_isHarmed 39 = .ok (.ireturn, 1) := by decide +kernel
theorem dX12_isHarmed_40 : decode cX12_isHarmed 40 = .ok (.iconst 0, 1) := by decide +kernel
theorem dX12_isHarmed_41 : decode cX12_isHarmed 41 = .ok (.istore 4, 2) := by decide +kernel
theorem dX12_isHarmed_43 : decode cX12_isHarmed 43 = .ok (.iload 4, 2) := by decide +kernel
theorem dX12_isHarmed_45 : decode cX12_isHarmed 45 = .ok (.aload_n 0, 1) := by decide +kernel
theorem dX12_isHarmed_46 : decode cX12_isHarmed 46 = .ok (.invokevirtual 193, 3) := by decide +kernel
theorem dX12_isHarmed_49 : decode cX12_isHarmed 49 = .ok (.if_icmp .ge 53, 3) := by decide +kernel
theorem dX12_isHarmed_52 : decode cX12_isHarmed 52 = .ok (.aload_n 0, 1) := by decide +kernel
theorem dX12_isHarmed_53 : decode cX12_isHarmed 53 = .ok (.getfield 13, 3) := by decide +kernel
theorem dX12_isHarmed_56 : decode cX12_isHarmed 56 = .ok (.iload_n 3, 1) := by decide +kernel
theorem dX12_isHarmed_57 : decode cX12_isHarmed 57 = .ok (.iconst 3, 1) := by decide +kernel
theorem dX12_isHarmed_58 : decode cX12_isHarmed 58 = .ok (.iadd, 1) := by decide +kernel
theorem dX12_isHarmed_59 : decode cX12_isHarmed 59 = .ok (.iload 4, 2) := by decide +kernel
theorem dX12_isHarmed_61 : decode cX12_isHarmed 61 = .ok (.iadd, 1) := by decide +kernel
theorem dX12_isHarmed_62 : decode cX12_isHarmed 62 = .ok (.iaload, 1) := by decide +kernel
theorem dX12_isHarmed_63 : decode cX12_isHarmed 63 = .ok (.iconst (-1), 1) := by decide +kernel
theorem dX12_isHarmed_64 : decode cX12_isHarmed 64 = .ok (.if_icmp .eq 32, 3) := by decide +kernel
theorem dX12_isHarmed_67 : decode cX12_isHarmed 67 = .ok (.aload_n 0, 1) := by decide +kernel
theorem dX12_isHarmed_68 : decode cX12_isHarmed 68 = .ok (.iload_n 2, 1) := by decide +kernel
theorem dX12_isHarmed_69 : decode cX12_isHarmed 69 = .ok (.aload_n 0, 1) := by decide +kernel
theorem dX12_isHarmed_70 : decode cX12_isHarmed 70 = .ok (.getfield 13, 3) := by decide +kernel
theorem dX12_isHarmed_73 : decode cX12_isHarmed 73 = .ok (.iload_n 3, 1) := by decide +kernel
theorem dX12_isHarmed_74 : decode cX12_isHarmed 74 = .ok (.iaload, 1) := by decide +kernel
theorem dX12_isHarmed_75 : decode cX12_isHarmed 75 = .ok (.iload 4, 2) := by decide +kernel
theorem dX12_isHarmed_77 : decode cX12_isHarmed 77 = .ok (.invokevirtual 315, 3) := by decide +kernel
theorem dX12_isHarmed_80 : decode cX12_isHarmed 80 = .ok (.aload_n 0, 1) := by decide +kernel
theorem dX12_isHarmed_81 : decode cX12_isHarmed 81 = .ok (.getfield 13, 3) := by decide +kernel
theorem dX12_isHarmed_84 : decode cX12_isHarmed 84 = .ok (.iload_n 3, 1) := by decide +kernel
theorem dX12_isHarmed_85 : decode cX12_isHarmed 85 = .ok (.iconst 3, 1) := by decide +kernel
theorem dX12_isHarmed_86 : decode cX12_isHarmed 86 = .ok (.iadd, 1) := by decide +kernel
theorem dX12_isHarmed_87 : decode cX12_isHarmed 87 = .ok (.iload 4, 2) := by decide +kernel
theorem dX12_isHarmed_89 : decode cX12_isHarmed 89 = .ok (.iadd, 1) := by decide +kernel
theorem dX12_isHarmed_90 : decode cX12_isHarmed 90 = .ok (.iaload, 1) := by decide +kernel
theorem dX12_isHarmed_91 : decode cX12_isHarmed 91 = .ok (.if_icmp .le 5, 3) := by decide +kernel
theorem dX12_isHarmed_94 : decode cX12_isHarmed 94 = .ok (.iconst 1, 1) := by decide +kernel
theorem dX12_isHarmed_95 : decode cX12_isHarmed 95 = .ok (.ireturn, 1) := by decide +kernel
theorem dX12_isHarmed_96 : decode cX12_isHarmed 96 = .ok (.iinc 4 1, 3) := by decide +kernel
theorem dX12_isHarmed_99 : decode cX12_isHarmed 99 = .ok (.goto (-56), 3) := by decide +kernel
theorem dX12_isHarmed_102 : decode cX12_isHarmed 102 = .ok (.iconst 0, 1) := by decide +kernel
theorem dX12_isHarmed_103 : decode cX12_isHarmed 103 = .ok (.ireturn, 1) := by decide +kernel
theorem dX12_harmAtHand_0 : decode cX12_harmAtHand 0 = .ok (.iconst 0, 1) := by decide +kernel
theorem dX12_harmAtHand_1 : decode cX12_harmAtHand 1 = .ok (.istore_n 1, 1) := by decide +kernel
theorem dX12_harmAtHand_2 : decode cX12_harmAtHand 2 = .ok (.iconst 0, 1) := by decide +kernel
theorem dX12_harmAtHand_3 : decode cX12_harmAtHand 3 = .ok (.istore_n 2, 1) := by decide +kernel
theorem dX12_harmAtHand_4 : decode cX12_harmAtHand 4 = .ok (.iload_n 2, 1) := by decide +kernel
theorem dX12_harmAtHand_5 : decode cX12_harmAtHand 5 = .ok (.aload_n 0, 1) := by decide +kernel
theorem dX12_harmAtHand_6 : decode cX12_harmAtHand 6 = .ok (.invokevirtual 199, 3) := by decide +kernel
theorem dX12_harmAtHand_9 : decode cX12_harmAtHand 9 = .ok (.if_icmp .ge 36, 3) := by decide +kernel
theorem dX12_harmAtHand_12 : decode cX12_harmAtHand 12 = .ok (.iconst 0, 1) := by decide +kernel
theorem dX12_harmAtHand_13 : decode cX12_harmAtHand 13 = .ok (.istore_n 3, 1) := by decide +kernel
theorem dX12_harmAtHand_14 : decode cX12_harmAtHand 14 = .ok (.iload_n 3, 1) := by decide +kernel
theorem dX12_harmAtHand_15 : decode cX12_harmAtHand 15 = .ok (.sipush 168, 3) := by decide +kernel
theorem dX12_harmAtHand_18 : decode cX12_harmAtHand 18 = .ok (.if_icmp .ge 21, 3) := by decide +kernel
theorem dX12_harmAtHand_21 : decode cX12_harmAtHand 21 = .ok (.aload_n 0, 1) := by decide +kernel
theorem dX12_harmAtHand_22 : decode cX12_harmAtHand 22 = .ok (.iload_n 2, 1) := by decide +kernel
theorem dX12_harmAtHand_23 : decode cX12_harmAtHand 23 = .ok (.iload_n 3, 1) := by decide +kernel
theorem dX12_harmAtHand_24 : decode cX12_harmAtHand 24 = .ok (.invokevirtual 319, 3) := by decide +kernel
theorem dX12_harmAtHand_27 : decode cX12_harmAtHand 27 = .ok (.ifCond .eq 6, 3) := by decide +kernel
theorem dX12_harmAtHand_30 : decode cX12_harmAtHand 30 = .ok (.iinc 1 1, 3) := by decide +kernel
theorem dX12_harmAtHand_33 : decode cX12_harmAtHand 33 = .ok (.iinc 3 1, 3) := by decide +kernel
theorem dX12_harmAtHand_36 : decode cX12_harmAtHand 36 = .ok (.goto (-22), 3) := by decide +kernel
theorem dX12_harmAtHand_39 : decode cX12_harmAtHand 39 = .ok (.iinc 2 1, 3) := by decide +kernel
theorem dX12_harmAtHand_42 : decode cX12_harmAtHand 42 = .ok (.goto (-38), 3) := by decide +kernel
theorem dX12_harmAtHand_45 : decode cX12_harmAtHand 45 = .ok (.iload_n 1, 1) := by decide +kernel
theorem dX12_harmAtHand_46 : decode cX12_harmAtHand 46 = .ok (.ireturn, 1) := by decide +kernel
theorem dX12_harmNow_0 : decode cX12_harmNow 0 = .ok (.aload_n 0, 1) := by decide +kernel
theorem dX12_harmNow_1 : decode cX12_harmNow 1 = .ok (.invokevirtual 322, 3) := by decide +kernel
theorem dX12_harmNow_4 : decode cX12_harmNow 4 = .ok (.aload_n 0, 1) := by decide +kernel
theorem dX12_harmNow_5 : decode cX12_harmNow 5 = .ok (.invokevirtual 325, 3) := by decide +kernel
theorem dX12_harmNow_8 : decode cX12_harmNow 8 = .ok (.ireturn, 1) := by decide +kernel
theorem dX12_isHour_0 : decode cX12_isHour 0 = .ok (.iload_n 0, 1) := by decide +kernel
theorem dX12_isHour_1 : decode cX12_isHour 1 = .ok (.ifCond .lt 14, 3) := by decide +kernel
theorem dX12_isHour_4 : decode cX12_isHour 4 = .ok (.iload_n 0, 1) := by decide +kernel
theorem dX12_isHour_5 : decode cX12_isHour 5 = .ok (.sipush 168, 3) := by decide +kernel
theorem dX12_isHour_8 : decode cX12_isHour 8 = .ok (.if_icmp .ge 7, 3) := by decide +kernel
theorem dX12_isHour_11 : decode cX12_isHour 11 = .ok (.iconst 1, 1) := by decide +kernel
theorem dX12_isHour_12 : decode cX12_isHour 12 = .ok (.goto 4, 3) := by decide +kernel
theorem dX12_isHour_15 : decode cX12_isHour 15 = .ok (.iconst 0, 1) := by decide +kernel
theorem dX12_isHour_16 : decode cX12_isHour 16 = .ok (.ireturn, 1) := by decide +kernel
theorem dX12_at_0 : decode cX12_at 0 = .ok (.aload_n 0, 1) := by decide +kernel
theorem dX12_at_1 : decode cX12_at 1 = .ok (.iconst 0, 1) := by decide +kernel
theorem dX12_at_2 : decode cX12_at 2 = .ok (.putfield 91, 3) := by decide +kernel
theorem dX12_at_5 : decode cX12_at 5 = .ok (.aload_n 0, 1) := by decide +kernel
theorem dX12_at_6 : decode cX12_at 6 = .ok (.invokevirtual 175, 3) := by decide +kernel
theorem dX12_at_9 : decode cX12_at 9 = .ok (.iload_n 1, 1) := by decide +kernel
theorem dX12_at_10 : decode cX12_at 10 = .ok (.invokestatic 328, 3) := by decide +kernel
theorem dX12_at_13 : decode cX12_at 13 = .ok (.ifCond .eq 29, 3) := by decide +kernel
theorem dX12_at_16 : decode cX12_at 16 = .ok (.aload_n 0, 1) := by decide +kernel
theorem dX12_at_17 : decode cX12_at 17 = .ok (.iload_n 2, 1) := by decide +kernel
theorem dX12_at_18 : decode cX12_at 18 = .ok (.invokevirtual 268, 3) := by decide +kernel
theorem dX12_at_21 : decode cX12_at 21 = .ok (.ifCond .eq 21, 3) := by decide +kernel
theorem dX12_at_24 : decode cX12_at 24 = .ok (.aload_n 0, 1) := by decide +kernel
theorem dX12_at_25 : decode cX12_at 25 = .ok (.iload_n 3, 1) := by decide +kernel
theorem dX12_at_26 : decode cX12_at 26 = .ok (.invokevirtual 331, 3) := by decide +kernel
theorem dX12_at_29 : decode cX12_at 29 = .ok (.ifCond .eq 13, 3) := by decide +kernel
theorem dX12_at_32 : decode cX12_at 32 = .ok (.iload 4, 2) := by decide +kernel
theorem dX12_at_34 : decode cX12_at 34 = .ok (.iconst 0, 1) := by decide +kernel
theorem dX12_at_35 : decode cX12_at 35 = .ok (.iconst 2, 1) := by decide +kernel
theorem dX12_at_36 : decode cX12_at 36 = .ok (.invokestatic 162, 3) := by decide +kernel
theorem dX12_at_39 : decode cX12_at 39 = .ok (.ifCond .ne 5, 3) := by decide +kernel
theorem dX12_at_42 : decode cX12_at 42 = .ok (.iconst (-1), 1) := by decide +kernel
theorem dX12_at_43 : decode cX12_at 43 = .ok (.ireturn, 1) := by decide +kernel
theorem dX12_at_44 : decode cX12_at 44 = .ok (.aload_n 0, 1) := by decide +kernel
theorem dX12_at_45 : decode cX12_at 45 = .ok (.invokevirtual 322, 3) := by decide +kernel
theorem dX12_at_48 : decode cX12_at 48 = .ok (.bipush 40, 2) := by decide +kernel
theorem dX12_at_50 : decode cX12_at 50 = .ok (.iload_n 1, 1) := by decide +kernel
theorem dX12_at_51 : decode cX12_at 51 = .ok (.imul, 1) := by decide +kernel
theorem dX12_at_52 : decode cX12_at 52 = .ok (.iconst 4, 1) := by decide +kernel
theorem dX12_at_53 : decode cX12_at 53 = .ok (.iload_n 2, 1) := by decide +kernel
theorem dX12_at_54 : decode cX12_at 54 = .ok (.imul, 1) := by decide +kernel
theorem dX12_at_55 : decode cX12_at 55 = .ok (.iadd, 1) := by decide +kernel
theorem dX12_at_56 : decode cX12_at 56 = .ok (.iload_n 3, 1) := by decide +kernel
theorem dX12_at_57 : decode cX12_at 57 = .ok (.iadd, 1) := by decide +kernel
theorem dX12_at_58 : decode cX12_at 58 = .ok (.istore 5, 2) := by decide +kernel
theorem dX12_at_60 : decode cX12_at 60 = .ok (.iload 4, 2) := by decide +kernel
theorem dX12_at_62 : decode cX12_at 62 = .ok (.ifCond .ne 13, 3) := by decide +kernel
theorem dX12_at_65 : decode cX12_at 65 = .ok (.aload_n 0, 1) := by decide +kernel
theorem dX12_at_66 : decode cX12_at 66 = .ok (.getfield 57, 3) := by decide +kernel
theorem dX12_at_69 : decode cX12_at 69 = .ok (.iload 5, 2) := by decide +kernel
theorem dX12_at_71 : decode cX12_at 71 = .ok (.iaload, 1) := by decide +kernel
theorem dX12_at_72 : decode cX12_at 72 = .ok (.goto 26, 3) := by decide +kernel
theorem dX12_at_75 : decode cX12_at 75 = .ok (.iload 4, 2) := by decide +kernel
theorem dX12_at_77 : decode cX12_at 77 = .ok (.iconst 1, 1) := by decide +kernel
theorem dX12_at_78 : decode cX12_at 78 = .ok (.if_icmp .ne 13, 3) := by decide +kernel
theorem dX12_at_81 : decode cX12_at 81 = .ok (.aload_n 0, 1) := by decide +kernel
theorem dX12_at_82 : decode cX12_at 82 = .ok (.getfield 60, 3) := by decide +kernel
theorem dX12_at_85 : decode cX12_at 85 = .ok (.iload 5, 2) := by decide +kernel
theorem dX12_at_87 : decode cX12_at 87 = .ok (.iaload, 1) := by decide +kernel
theorem dX12_at_88 : decode cX12_at 88 = .ok (.goto 10, 3) := by decide +kernel
theorem dX12_at_91 : decode cX12_at 91 = .ok (.aload_n 0, 1) := by decide +kernel
theorem dX12_at_92 : decode cX12_at 92 = .ok (.iload_n 1, 1) := by decide +kernel
theorem dX12_at_93 : decode cX12_at 93 = .ok (.iload_n 2, 1) := by decide +kernel
theorem dX12_at_94 : decode cX12_at 94 = .ok (.iload_n 3, 1) := by decide +kernel
theorem dX12_at_95 : decode cX12_at 95 = .ok (.invokevirtual 315, 3) := by decide +kernel
theorem dX12_at_98 : decode cX12_at 98 = .ok (.ireturn, 1) := by decide +kernel
theorem dX12_passed_0 : decode cX12_passed 0 = .ok (.aload_n 0, 1) := by decide +kernel
theorem dX12_passed_1 : decode cX12_passed 1 = .ok (.iconst 0, 1) := by decide +kernel
theorem dX12_passed_2 : decode cX12_passed 2 = .ok (.putfield 91, 3) := by decide +kernel
theorem dX12_passed_5 : decode cX12_passed 5 = .ok (.aload_n 0, 1) := by decide +kernel
theorem dX12_passed_6 : decode cX12_passed 6 = .ok (.invokevirtual 175, 3) := by decide +kernel
theorem dX12_passed_9 : decode cX12_passed 9 = .ok (.iload_n 1, 1) := by decide +kernel
theorem dX12_passed_10 : decode cX12_passed 10 = .ok (.invokestatic 328, 3) := by decide +kernel
theorem dX12_passed_13 : decode cX12_passed 13 = .ok (.ifCond .eq 11, 3) := by decide +kernel
theorem dX12_passed_16 : decode cX12_passed 16 = .ok (.aload_n 0, 1) := by decide +kernel
theorem dX12_passed_17 : decode cX12_passed 17 = .ok (.iload_n 2, 1) := by decide +kernel
theorem dX12_passed_18 : decode cX12_passed 18 = .ok (.invokevirtual 331, 3) := by decide +kernel
theorem dX12_passed_21 : decode cX12_passed 21 = .ok (.ifCond .ne 5, 3) := by decide +kernel
theorem dX12_passed_24 : decode cX12_passed 24 = .ok (.iconst (-1), 1) := by decide +kernel
theorem dX12_passed_25 : decode cX12_passed 25 = .ok (.ireturn, 1) := by decide +kernel
theorem dX12_passed_26 : decode cX12_passed 26 = .ok (.aload_n 0, 1) := by decide +kernel
theorem dX12_passed_27 : decode cX12_passed 27 = .ok (.invokevirtual 322, 3) := by decide +kernel
theorem dX12_passed_30 : decode cX12_passed 30 = .ok (.aload_n 0, 1) := by decide +kernel
theorem dX12_passed_31 : decode cX12_passed 31 = .ok (.getfield 48, 3) := by decide +kernel
theorem dX12_passed_34 : decode cX12_passed 34 = .ok (.iconst 4, 1) := by decide +kernel
theorem dX12_passed_35 : decode cX12_passed 35 = .ok (.iload_n 1, 1) := by decide +kernel
theorem dX12_passed_36 : decode cX12_passed 36 = .ok (.imul, 1) := by decide +kernel
theorem dX12_passed_37 : decode cX12_passed 37 = .ok (.iload_n 2, 1) := by decide +kernel
theorem dX12_passed_38 : decode cX12_passed 38 = .ok (.iadd, 1) := by decide +kernel
theorem dX12_passed_39 : decode cX12_passed 39 = .ok (.iaload, 1) := by decide +kernel
theorem dX12_passed_40 : decode cX12_passed 40 = .ok (.ireturn, 1) := by decide +kernel
theorem dX12_sum_0 : decode cX12_sum 0 = .ok (.aload_n 0, 1) := by decide +kernel
theorem dX12_sum_1 : decode cX12_sum 1 = .ok (.iconst 0, 1) := by decide +kernel
theorem dX12_sum_2 : decode cX12_sum 2 = .ok (.putfield 91, 3) := by decide +kernel
theorem dX12_sum_5 : decode cX12_sum 5 = .ok (.aload_n 0, 1) := by decide +kernel
theorem dX12_sum_6 : decode cX12_sum 6 = .ok (.invokevirtual 175, 3) := by decide +kernel
theorem dX12_sum_9 : decode cX12_sum 9 = .ok (.aload_n 0, 1) := by decide +kernel
theorem dX12_sum_10 : decode cX12_sum 10 = .ok (.iload_n 1, 1) := by decide +kernel
theorem dX12_sum_11 : decode cX12_sum 11 = .ok (.invokevirtual 331, 3) := by decide +kernel
theorem dX12_sum_14 : decode cX12_sum 14 = .ok (.ifCond .eq 12, 3) := by decide +kernel
theorem dX12_sum_17 : decode cX12_sum 17 = .ok (.iload_n 2, 1) := by decide +kernel
theorem dX12_sum_18 : decode cX12_sum 18 = .ok (.iconst 0, 1) := by decide +kernel
theorem dX12_sum_19 : decode cX12_sum 19 = .ok (.iconst 3, 1) := by decide +kernel
theorem dX12_sum_20 : decode cX12_sum 20 = .ok (.invokestatic 162, 3) := by decide +kernel
theorem dX12_sum_23 : decode cX12_sum 23 = .ok (.ifCond .ne 5, 3) := by decide +kernel
theorem dX12_sum_26 : decode cX12_sum 26 = .ok (.iconst (-1), 1) := by decide +kernel
theorem dX12_sum_27 : decode cX12_sum 27 = .ok (.ireturn, 1) := by decide +kernel
theorem dX12_sum_28 : decode cX12_sum 28 = .ok (.aload_n 0, 1) := by decide +kernel
theorem dX12_sum_29 : decode cX12_sum 29 = .ok (.invokevirtual 322, 3) := by decide +kernel
theorem dX12_sum_32 : decode cX12_sum 32 = .ok (.iload_n 2, 1) := by decide +kernel
theorem dX12_sum_33 : decode cX12_sum 33 = .ok (.ifCond .ne 10, 3) := by decide +kernel
theorem dX12_sum_36 : decode cX12_sum 36 = .ok (.aload_n 0, 1) := by decide +kernel
theorem dX12_sum_37 : decode cX12_sum 37 = .ok (.getfield 51, 3) := by decide +kernel
theorem dX12_sum_40 : decode cX12_sum 40 = .ok (.iload_n 1, 1) := by decide +kernel
theorem dX12_sum_41 : decode cX12_sum 41 = .ok (.iaload, 1) := by decide +kernel
theorem dX12_sum_42 : decode cX12_sum 42 = .ok (.ireturn, 1) := by decide +kernel
theorem dX12_sum_43 : decode cX12_sum 43 = .ok (.iconst 0, 1) := by decide +kernel
theorem dX12_sum_44 : decode cX12_sum 44 = .ok (.istore_n 3, 1) := by decide +kernel
theorem dX12_sum_45 : decode cX12_sum 45 = .ok (.iload_n 2, 1) := by decide +kernel
theorem dX12_sum_46 : decode cX12_sum 46 = .ok (.iconst 1, 1) := by decide +kernel
theorem dX12_sum_47 : decode cX12_sum 47 = .ok (.if_icmp .ne 34, 3) := by decide +kernel
theorem dX12_sum_50 : decode cX12_sum 50 = .ok (.iconst 0, 1) := by decide +kernel
theorem dX12_sum_51 : decode cX12_sum 51 = .ok (.istore 4, 2) := by decide +kernel
theorem dX12_sum_53 : decode cX12_sum 53 = .ok (.iload 4, 2) := by decide +kernel
theorem dX12_sum_55 : decode cX12_sum 55 = .ok (.sipush 168, 3) := by decide +kernel
theorem dX12_sum_58 : decode cX12_sum 58 = .ok (.if_icmp .ge 23, 3) := by decide +kernel
theorem dX12_sum_61 : decode cX12_sum 61 = .ok (.iload_n 3, 1) := by decide +kernel
theorem dX12_sum_62 : decode cX12_sum 62 = .ok (.aload_n 0, 1) := by decide +kernel
theorem dX12_sum_63 : decode cX12_sum 63 = .ok (.getfield 48, 3) := by decide +kernel
theorem dX12_sum_66 : decode cX12_sum 66 = .ok (.iconst 4, 1) := by decide +kernel
theorem dX12_sum_67 : decode cX12_sum 67 = .ok (.iload 4, 2) := by decide +kernel
theorem dX12_sum_69 : decode cX12_sum 69 = .ok (.imul, 1) := by decide +kernel
theorem dX12_sum_70 : decode cX12_sum 70 = .ok (.iload_n 1, 1) := by decide +kernel
theorem dX12_sum_71 : decode cX12_sum 71 = .ok (.iadd, 1) := by decide +kernel
theorem dX12_sum_72 : decode cX12_sum 72 = .ok (.iaload, 1) := by decide +kernel
theorem dX12_sum_73 : decode cX12_sum 73 = .ok (.iadd, 1) := by decide +kernel
theorem dX12_sum_74 : decode cX12_sum 74 = .ok (.istore_n 3, 1) := by decide +kernel
theorem dX12_sum_75 : decode cX12_sum 75 = .ok (.iinc 4 1, 3) := by decide +kernel
theorem dX12_sum_78 : decode cX12_sum 78 = .ok (.goto (-25), 3) := by decide +kernel
theorem dX12_sum_81 : decode cX12_sum 81 = .ok (.iconst 0, 1) := by decide +kernel
theorem dX12_sum_82 : decode cX12_sum 82 = .ok (.istore 4, 2) := by decide +kernel
theorem dX12_sum_84 : decode cX12_sum 84 = .ok (.iload 4, 2) := by decide +kernel
theorem dX12_sum_86 : decode cX12_sum 86 = .ok (.aload_n 0, 1) := by decide +kernel
theorem dX12_sum_87 : decode cX12_sum 87 = .ok (.invokevirtual 190, 3) := by decide +kernel
theorem dX12_sum_90 : decode cX12_sum 90 = .ok (.if_icmp .ge 47, 3) := by decide +kernel
theorem dX12_sum_93 : decode cX12_sum 93 = .ok (.iload_n 2, 1) := by decide +kernel
theorem dX12_sum_94 : decode cX12_sum 94 = .ok (.iconst 1, 1) := by decide +kernel
theorem dX12_sum_95 : decode cX12_sum 95 = .ok (.if_icmp .le 42, 3) := by decide +kernel
theorem dX12_sum_98 : decode cX12_sum 98 = .ok (.iload_n 3, 1) := by decide +kernel
theorem dX12_sum_99 : decode cX12_sum 99 = .ok (.iload_n 2, 1) := by decide +kernel
theorem dX12_sum_100 : decode cX12_sum 100 = .ok (.iconst 2, 1) := by decide +kernel
theorem dX12_sum_101 : decode cX12_sum 101 = .ok (.if_icmp .ne 17, 3) := by decide +kernel
theorem dX12_sum_104 : decode cX12_sum 104 = .ok (.aload_n 0, 1) := by decide +kernel
theorem dX12_sum_105 : decode cX12_sum 105 = .ok (.getfield 42, 3) := by decide +kernel
theorem dX12_sum_108 : decode cX12_sum 108 = .ok (.iconst 4, 1) := by decide +kernel
theorem dX12_sum_109 : decode cX12_sum 109 = .ok (.iload 4, 2) := by decide +kernel
theorem dX12_sum_111 : decode cX12_sum 111 = .ok (.imul, 1) := by decide +kernel
theorem dX12_sum_112 : decode cX12_sum 112 = .ok (.iload_n 1, 1) := by decide +kernel
theorem dX12_sum_113 : decode cX12_sum 113 = .ok (.iadd, 1) := by decide +kernel
theorem dX12_sum_114 : decode cX12_sum 114 = .ok (.iaload, 1) := by decide +kernel
theorem dX12_sum_115 : decode cX12_sum 115 = .ok (.goto 14, 3) := by decide +kernel
theorem dX12_sum_118 : decode cX12_sum 118 = .ok (.aload_n 0, 1) := by decide +kernel
theorem dX12_sum_119 : decode cX12_sum 119 = .ok (.getfield 45, 3) := by decide +kernel
theorem dX12_sum_122 : decode cX12_sum 122 = .ok (.iconst 4, 1) := by decide +kernel
theorem dX12_sum_123 : decode cX12_sum 123 = .ok (.iload 4, 2) := by decide +kernel
theorem dX12_sum_125 : decode cX12_sum 125 = .ok (.imul, 1) := by decide +kernel
theorem dX12_sum_126 : decode cX12_sum 126 = .ok (.iload_n 1, 1) := by decide +kernel
theorem dX12_sum_127 : decode cX12_sum 127 = .ok (.iadd, 1) := by decide +kernel
theorem dX12_sum_128 : decode cX12_sum 128 = .ok (.iaload, 1) := by decide +kernel
theorem dX12_sum_129 : decode cX12_sum 129 = .ok (.iadd, 1) := by decide +kernel
theorem dX12_sum_130 : decode cX12_sum 130 = .ok (.istore_n 3, 1) := by decide +kernel
theorem dX12_sum_131 : decode cX12_sum 131 = .ok (.iinc 4 1, 3) := by decide +kernel
theorem dX12_sum_134 : decode cX12_sum 134 = .ok (.goto (-50), 3) := by decide +kernel
theorem dX12_sum_137 : decode cX12_sum 137 = .ok (.iload_n 3, 1) := by decide +kernel
theorem dX12_sum_138 : decode cX12_sum 138 = .ok (.ireturn, 1) := by decide +kernel
theorem dX12_fine_0 : decode cX12_fine 0 = .ok (.aload_n 0, 1) := by decide +kernel
theorem dX12_fine_1 : decode cX12_fine 1 = .ok (.iconst 0, 1) := by decide +kernel
theorem dX12_fine_2 : decode cX12_fine 2 = .ok (.putfield 91, 3) := by decide +kernel
theorem dX12_fine_5 : decode cX12_fine 5 = .ok (.aload_n 0, 1) := by decide +kernel
theorem dX12_fine_6 : decode cX12_fine 6 = .ok (.invokevirtual 175, 3) := by decide +kernel
theorem dX12_fine_9 : decode cX12_fine 9 = .ok (.iload_n 1, 1) := by decide +kernel
theorem dX12_fine_10 : decode cX12_fine 10 = .ok (.invokestatic 328, 3) := by decide +kernel
theorem dX12_fine_13 : decode cX12_fine 13 = .ok (.ifCond .eq 11, 3) := by decide +kernel
theorem dX12_fine_16 : decode cX12_fine 16 = .ok (.aload_n 0, 1) := by decide +kernel
theorem dX12_fine_17 : decode cX12_fine 17 = .ok (.iload_n 2, 1) := by decide +kernel
theorem dX12_fine_18 : decode cX12_fine 18 = .ok (.invokevirtual 268, 3) := by decide +kernel
theorem dX12_fine_21 : decode cX12_fine 21 = .ok (.ifCond .ne 5, 3) := by decide +kernel
theorem dX12_fine_24 : decode cX12_fine 24 = .ok (.iconst (-1), 1) := by decide +kernel
theorem dX12_fine_25 : decode cX12_fine 25 = .ok (.ireturn, 1) := by decide +kernel
theorem dX12_fine_26 : decode cX12_fine 26 = .ok (.aload_n 0, 1) := by decide +kernel
theorem dX12_fine_27 : decode cX12_fine 27 = .ok (.invokevirtual 322, 3) := by decide +kernel
theorem dX12_fine_30 : decode cX12_fine 30 = .ok (.iconst 0, 1) := by decide +kernel
theorem dX12_fine_31 : decode cX12_fine 31 = .ok (.istore_n 3, 1) := by decide +kernel
theorem dX12_fine_32 : decode cX12_fine 32 = .ok (.iconst 0, 1) := by decide +kernel
theorem dX12_fine_33 : decode cX12_fine 33 = .ok (.istore 4, 2) := by decide +kernel
theorem dX12_fine_35 : decode cX12_fine 35 = .ok (.iload 4, 2) := by decide +kernel
theorem dX12_fine_37 : decode cX12_fine 37 = .ok (.aload_n 0, 1) := by decide +kernel
theorem dX12_fine_38 : decode cX12_fine 38 = .ok (.invokevirtual 193, 3) := by decide +kernel
theorem dX12_fine_41 : decode cX12_fine 41 = .ok (.if_icmp .ge 124, 3) := by decide +kernel
theorem dX12_fine_44 : decode cX12_fine 44 = .ok (.aload_n 0, 1) := by decide +kernel
theorem dX12_fine_45 : decode cX12_fine 45 = .ok (.iload_n 1, 1) := by decide +kernel
theorem dX12_fine_46 : decode cX12_fine 46 = .ok (.iload_n 2, 1) := by decide +kernel
theorem dX12_fine_47 : decode cX12_fine 47 = .ok (.iload 4, 2) := by decide +kernel
theorem dX12_fine_49 : decode cX12_fine 49 = .ok (.invokevirtual 315, 3) := by decide +kernel
theorem dX12_fine_52 : decode cX12_fine 52 = .ok (.istore 5, 2) := by decide +kernel
theorem dX12_fine_54 : decode cX12_fine 54 = .ok (.iconst 0, 1) := by decide +kernel
theorem dX12_fine_55 : decode cX12_fine 55 = .ok (.istore 6, 2) := by decide +kernel
theorem dX12_fine_57 : decode cX12_fine 57 = .ok (.iconst 0, 1) := by decide +kernel
theorem dX12_fine_58 : decode cX12_fine 58 = .ok (.istore 7, 2) := by decide +kernel
theorem dX12_fine_60 : decode cX12_fine 60 = .ok (.iconst 0, 1) := by decide +kernel
theorem dX12_fine_61 : decode cX12_fine 61 = .ok (.istore 8, 2) := by decide +kernel
theorem dX12_fine_63 : decode cX12_fine 63 = .ok (.iload 8, 2) := by decide +kernel
theorem dX12_fine_65 : decode cX12_fine 65 = .ok (.aload_n 0, 1) := by decide +kernel
theorem dX12_fine_66 : decode cX12_fine 66 = .ok (.getfield 13, 3) := by decide +kernel
theorem dX12_fine_69 : decode cX12_fine 69 = .ok (.iconst 4, 1) := by decide +kernel
theorem dX12_fine_70 : decode cX12_fine 70 = .ok (.iaload, 1) := by decide +kernel
theorem dX12_fine_71 : decode cX12_fine 71 = .ok (.if_icmp .ge 83, 3) := by decide +kernel
theorem dX12_fine_74 : decode cX12_fine 74 = .ok (.bipush 118, 2) := by decide +kernel
theorem dX12_fine_76 : decode cX12_fine 76 = .ok (.iconst 3, 1) := by decide +kernel
theorem dX12_fine_77 : decode cX12_fine 77 = .ok (.iload 8, 2) := by decide +kernel
theorem dX12_fine_79 : decode cX12_fine 79 = .ok (.imul, 1) := by decide +kernel
theorem dX12_fine_80 : decode cX12_fine 80 = .ok (.iadd, 1) := by decide +kernel
theorem dX12_fine_81 : decode cX12_fine 81 = .ok (.istore 9, 2) := by decide +kernel
theorem dX12_fine_83 : decode cX12_fine 83 = .ok (.aload_n 0, 1) := by decide +kernel
theorem dX12_fine_84 : decode cX12_fine 84 = .ok (.getfield 13, 3) := by decide +kernel
theorem dX12_fine_87 : decode cX12_fine 87 = .ok (.iload 9, 2) := by decide +kernel
theorem dX12_fine_89 : decode cX12_fine 89 = .ok (.iaload, 1) := by decide +kernel
theorem dX12_fine_90 : decode cX12_fine 90 = .ok (.iload 4, 2) := by decide +kernel
theorem dX12_fine_92 : decode cX12_fine 92 = .ok (.if_icmp .ne 56, 3) := by decide +kernel
theorem dX12_fine_95 : decode cX12_fine 95 = .ok (.aload_n 0, 1) := by decide +kernel
theorem dX12_fine_96 : decode cX12_fine 96 = .ok (.getfield 13, 3) := by decide +kernel
theorem dX12_fine_99 : decode cX12_fine 99 = .ok (.iload 9, 2) := by decide +kernel
theorem dX12_fine_101 : decode cX12_fine 101 = .ok (.iconst 1, 1) := by decide +kernel
theorem dX12_fine_102 : decode cX12_fine 102 = .ok (.iadd, 1) := by decide +kernel
theorem dX12_fine_103 : decode cX12_fine 103 = .ok (.iaload, 1) := by decide +kernel
theorem dX12_fine_104 : decode cX12_fine 104 = .ok (.iload 5, 2) := by decide +kernel
theorem dX12_fine_106 : decode cX12_fine 106 = .ok (.if_icmp .gt 42, 3) := by decide +kernel
theorem dX12_fine_109 : decode cX12_fine 109 = .ok (.aload_n 0, 1) := by decide +kernel
theorem dX12_fine_110 : decode cX12_fine 110 = .ok (.getfield 13, 3) := by decide +kernel
theorem dX12_fine_113 : decode cX12_fine 113 = .ok (.iload 9, 2) := by decide +kernel
theorem dX12_fine_115 : decode cX12_fine 115 = .ok (.iconst 1, 1) := by decide +kernel
theorem dX12_fine_116 : decode cX12_fine 116 = .ok (.iadd, 1) := by decide +kernel
theorem dX12_fine_117 : decode cX12_fine 117 = .ok (.iaload, 1) := by decide +kernel
theorem dX12_fine_118 : decode cX12_fine 118 = .ok (.iload 6, 2) := by decide +kernel
theorem dX12_fine_120 : decode cX12_fine 120 = .ok (.if_icmp .gt 6, 3) := by decide +kernel
theorem dX12_fine_123 : decode cX12_fine 123 = .ok (.goto 25, 3) := by decide +kernel
theorem dX12_fine_126 : decode cX12_fine 126 = .ok (.aload_n 0, 1) := by decide +kernel
theorem dX12_fine_127 : decode cX12_fine 127 = .ok (.getfield 13, 3) := by decide +kernel
theorem dX12_fine_130 : decode cX12_fine 130 = .ok (.iload 9, 2) := by decide +kernel
theorem dX12_fine_132 : decode cX12_fine 132 = .ok (.iconst 1, 1) := by decide +kernel
theorem dX12_fine_133 : decode cX12_fine 133 = .ok (.iadd, 1) := by decide +kernel
theorem dX12_fine_134 : decode cX12_fine 134 = .ok (.iaload, 1) := by decide +kernel
theorem dX12_fine_135 : decode cX12_fine 135 = .ok (.istore 6, 2) := by decide +kernel
theorem dX12_fine_137 : decode cX12_fine 137 = .ok (.aload_n 0, 1) := by decide +kernel
theorem dX12_fine_138 : decode cX12_fine 138 = .ok (.getfield 13, 3) := by decide +kernel
theorem dX12_fine_141 : decode cX12_fine 141 = .ok (.iload 9, 2) := by decide +kernel
theorem dX12_fine_143 : decode cX12_fine 143 = .ok (.iconst 2, 1) := by decide +kernel
theorem dX12_fine_144 : decode cX12_fine 144 = .ok (.iadd, 1) := by decide +kernel
theorem dX12_fine_145 : decode cX12_fine 145 = .ok (.iaload, 1) := by decide +kernel
theorem dX12_fine_146 : decode cX12_fine 146 = .ok (.istore 7, 2) := by decide +kernel
theorem dX12_fine_148 : decode cX12_fine 148 = .ok (.iinc 8 1, 3) := by decide +kernel
theorem dX12_fine_151 : decode cX12_fine 151 = .ok (.goto (-88), 3) := by decide +kernel
theorem dX12_fine_154 : decode cX12_fine 154 = .ok (.iload_n 3, 1) := by decide +kernel
theorem dX12_fine_155 : decode cX12_fine 155 = .ok (.iload 7, 2) := by decide +kernel
theorem dX12_fine_157 : decode cX12_fine 157 = .ok (.iadd, 1) := by decide +kernel
theorem dX12_fine_158 : decode cX12_fine 158 = .ok (.istore_n 3, 1) := by decide +kernel
theorem dX12_fine_159 : decode cX12_fine 159 = .ok (.iinc 4 1, 3) := by decide +kernel
theorem dX12_fine_162 : decode cX12_fine 162 = .ok (.goto (-127), 3) := by decide +kernel
theorem dX12_fine_165 : decode cX12_fine 165 = .ok (.iload_n 3, 1) := by decide +kernel
theorem dX12_fine_166 : decode cX12_fine 166 = .ok (.ireturn, 1) := by decide +kernel
theorem dX12_harmed_0 : decode cX12_harmed 0 = .ok (.aload_n 0, 1) := by decide +kernel
theorem dX12_harmed_1 : decode cX12_harmed 1 = .ok (.iconst 0, 1) := by decide +kernel
theorem dX12_harmed_2 : decode cX12_harmed 2 = .ok (.putfield 91, 3) := by decide +kernel
theorem dX12_harmed_5 : decode cX12_harmed 5 = .ok (.aload_n 0, 1) := by decide +kernel
theorem dX12_harmed_6 : decode cX12_harmed 6 = .ok (.invokevirtual 175, 3) := by decide +kernel
theorem dX12_harmed_9 : decode cX12_harmed 9 = .ok (.aload_n 0, 1) := by decide +kernel
theorem dX12_harmed_10 : decode cX12_harmed 10 = .ok (.iload_n 1, 1) := by decide +kernel
theorem dX12_harmed_11 : decode cX12_harmed 11 = .ok (.invokevirtual 277, 3) := by decide +kernel
theorem dX12_harmed_14 : decode cX12_harmed 14 = .ok (.ifCond .eq 8, 3) := by decide +kernel
theorem dX12_harmed_17 : decode cX12_harmed 17 = .ok (.iload_n 2, 1) := by decide +kernel
theorem dX12_harmed_18 : decode cX12_harmed 18 = .ok (.iconst (-1), 1) := by decide +kernel
theorem dX12_harmed_19 : decode cX12_harmed 19 = .ok (.if_icmp .ge 5, 3) := by decide +kernel
theorem dX12_harmed_22 : decode cX12_harmed 22 = .ok (.iconst (-1), 1) := by decide +kernel
theorem dX12_harmed_23 : decode cX12_harmed 23 = .ok (.ireturn, 1) := by decide +kernel
theorem dX12_harmed_24 : decode cX12_harmed 24 = .ok (.aload_n 0, 1) := by decide +kernel
theorem dX12_harmed_25 : decode cX12_harmed 25 = .ok (.invokevirtual 322, 3) := by decide +kernel
theorem dX12_harmed_28 : decode cX12_harmed 28 = .ok (.iconst 0, 1) := by decide +kernel
theorem dX12_harmed_29 : decode cX12_harmed 29 = .ok (.istore_n 3, 1) := by decide +kernel
theorem dX12_harmed_30 : decode cX12_harmed 30 = .ok (.iconst 0, 1) := by decide +kernel
theorem dX12_harmed_31 : decode cX12_harmed 31 = .ok (.istore 4, 2) := by decide +kernel
theorem dX12_harmed_33 : decode cX12_harmed 33 = .ok (.iload 4, 2) := by decide +kernel
theorem dX12_harmed_35 : decode cX12_harmed 35 = .ok (.sipush 168, 3) := by decide +kernel
theorem dX12_harmed_38 : decode cX12_harmed 38 = .ok (.if_icmp .ge 33, 3) := by decide +kernel
theorem dX12_harmed_41 : decode cX12_harmed 41 = .ok (.aload_n 0, 1) := by decide +kernel
theorem dX12_harmed_42 : decode cX12_harmed 42 = .ok (.iload_n 1, 1) := by decide +kernel
theorem dX12_harmed_43 : decode cX12_harmed 43 = .ok (.iload 4, 2) := by decide +kernel
theorem dX12_harmed_45 : decode cX12_harmed 45 = .ok (.invokevirtual 319, 3) := by decide +kernel
theorem dX12_harmed_48 : decode cX12_harmed 48 = .ok (.ifCond .ne 6, 3) := by decide +kernel
theorem dX12_harmed_51 : decode cX12_harmed 51 = .ok (.goto 14, 3) := by decide +kernel
theorem dX12_harmed_54 : decode cX12_harmed 54 = .ok (.iload_n 3, 1) := by decide +kernel
theorem dX12_harmed_55 : decode cX12_harmed 55 = .ok (.iload_n 2, 1) := by decide +kernel
theorem dX12_harmed_56 : decode cX12_harmed 56 = .ok (.if_icmp .ne 6, 3) := by decide +kernel
theorem dX12_harmed_59 : decode cX12_harmed 59 = .ok (.iload 4, 2) := by decide +kernel
theorem dX12_harmed_61 : decode cX12_harmed 61 = .ok (.ireturn, 1) := by decide +kernel
theorem dX12_harmed_62 : decode cX12_harmed 62 = .ok (.iinc 3 1, 3) := by decide +kernel
theorem dX12_harmed_65 : decode cX12_harmed 65 = .ok (.iinc 4 1, 3) := by decide +kernel
theorem dX12_harmed_68 : decode cX12_harmed 68 = .ok (.goto (-35), 3) := by decide +kernel
theorem dX12_harmed_71 : decode cX12_harmed 71 = .ok (.iload_n 2, 1) := by decide +kernel
theorem dX12_harmed_72 : decode cX12_harmed 72 = .ok (.iconst (-1), 1) := by decide +kernel
theorem dX12_harmed_73 : decode cX12_harmed 73 = .ok (.if_icmp .ne 7, 3) := by decide +kernel
theorem dX12_harmed_76 : decode cX12_harmed 76 = .ok (.iload_n 3, 1) := by decide +kernel
theorem dX12_harmed_77 : decode cX12_harmed 77 = .ok (.goto 4, 3) := by decide +kernel
theorem dX12_harmed_80 : decode cX12_harmed 80 = .ok (.iconst (-1), 1) := by decide +kernel
theorem dX12_harmed_81 : decode cX12_harmed 81 = .ok (.ireturn, 1) := by decide +kernel
theorem dX12_harm_0 : decode cX12_harm 0 = .ok (.aload_n 0, 1) := by decide +kernel
theorem dX12_harm_1 : decode cX12_harm 1 = .ok (.iconst 0, 1) := by decide +kernel
theorem dX12_harm_2 : decode cX12_harm 2 = .ok (.putfield 91, 3) := by decide +kernel
theorem dX12_harm_5 : decode cX12_harm 5 = .ok (.aload_n 0, 1) := by decide +kernel
theorem dX12_harm_6 : decode cX12_harm 6 = .ok (.invokevirtual 334, 3) := by decide +kernel
theorem dX12_harm_9 : decode cX12_harm 9 = .ok (.ireturn, 1) := by decide +kernel
theorem dX12_blame_0 : decode cX12_blame 0 = .ok (.aload_n 0, 1) := by decide +kernel
theorem dX12_blame_1 : decode cX12_blame 1 = .ok (.iconst 0, 1) := by decide +kernel
theorem dX12_blame_2 : decode cX12_blame 2 = .ok (.putfield 91, 3) := by decide +kernel
theorem dX12_blame_5 : decode cX12_blame 5 = .ok (.aload_n 0, 1) := by decide +kernel
theorem dX12_blame_6 : decode cX12_blame 6 = .ok (.invokevirtual 175, 3) := by decide +kernel
theorem dX12_blame_9 : decode cX12_blame 9 = .ok (.aload_n 0, 1) := by decide +kernel
theorem dX12_blame_10 : decode cX12_blame 10 = .ok (.iload_n 1, 1) := by decide +kernel
theorem dX12_blame_11 : decode cX12_blame 11 = .ok (.invokevirtual 274, 3) := by decide +kernel
theorem dX12_blame_14 : decode cX12_blame 14 = .ok (.ifCond .eq 11, 3) := by decide +kernel
theorem dX12_blame_17 : decode cX12_blame 17 = .ok (.aload_n 0, 1) := by decide +kernel
theorem dX12_blame_18 : decode cX12_blame 18 = .ok (.iload_n 2, 1) := by decide +kernel
theorem dX12_blame_19 : decode cX12_blame 19 = .ok (.invokevirtual 277, 3) := by decide +kernel
theorem dX12_blame_22 : decode cX12_blame 22 = .ok (.ifCond .ne 5, 3) := by decide +kernel
theorem dX12_blame_25 : decode cX12_blame 25 = .ok (.iconst (-1), 1) := by decide +kernel
theorem dX12_blame_26 : decode cX12_blame 26 = .ok (.ireturn, 1) := by decide +kernel
theorem dX12_blame_27 : decode cX12_blame 27 = .ok (.aload_n 0, 1) := by decide +kernel
theorem dX12_blame_28 : decode cX12_blame 28 = .ok (.invokevirtual 322, 3) := by decide +kernel
theorem dX12_blame_31 : decode cX12_blame 31 = .ok (.iconst 0, 1) := by decide +kernel
theorem dX12_blame_32 : decode cX12_blame 32 = .ok (.istore_n 3, 1) := by decide +kernel
theorem dX12_blame_33 : decode cX12_blame 33 = .ok (.iload_n 3, 1) := by decide +kernel
theorem dX12_blame_34 : decode cX12_blame 34 = .ok (.sipush 168, 3) := by decide +kernel
theorem dX12_blame_37 : decode cX12_blame 37 = .ok (.if_icmp .ge 21, 3) := by decide +kernel
theorem dX12_blame_40 : decode cX12_blame 40 = .ok (.aload_n 0, 1) := by decide +kernel
theorem dX12_blame_41 : decode cX12_blame 41 = .ok (.getfield 67, 3) := by decide +kernel
theorem dX12_blame_44 : decode cX12_blame 44 = .ok (.iload_n 3, 1) := by decide +kernel
theorem dX12_blame_45 : decode cX12_blame 45 = .ok (.aload_n 0, 1) := by decide +kernel
theorem dX12_blame_46 : decode cX12_blame 46 = .ok (.iload_n 2, 1) := by decide +kernel
theorem dX12_blame_47 : decode cX12_blame 47 = .ok (.iload_n 3, 1) := by decide +kernel
theorem dX12_blame_48 : decode cX12_blame 48 = .ok (.invokevirtual 319, 3) := by decide +kernel
theorem dX12_blame_51 : decode cX12_blame 51 = .ok (.bastore, 1) := by decide +kernel
theorem dX12_blame_52 : decode cX12_blame 52 = .ok (.iinc 3 1, 3) := by decide +kernel
theorem dX12_blame_55 : decode cX12_blame 55 = .ok (.goto (-22), 3) := by decide +kernel
theorem dX12_blame_58 : decode cX12_blame 58 = .ok (.aload_n 0, 1) := by decide +kernel
theorem dX12_blame_59 : decode cX12_blame 59 = .ok (.iload_n 1, 1) := by decide +kernel
theorem dX12_blame_60 : decode cX12_blame 60 = .ok (.invokevirtual 304, 3) := by decide +kernel
theorem dX12_blame_63 : decode cX12_blame 63 = .ok (.aload_n 0, 1) := by decide +kernel
theorem dX12_blame_64 : decode cX12_blame 64 = .ok (.invokevirtual 310, 3) := by decide +kernel
theorem dX12_blame_67 : decode cX12_blame 67 = .ok (.iconst 0, 1) := by decide +kernel
theorem dX12_blame_68 : decode cX12_blame 68 = .ok (.istore_n 3, 1) := by decide +kernel
theorem dX12_blame_69 : decode cX12_blame 69 = .ok (.iconst 0, 1) := by decide +kernel
theorem dX12_blame_70 : decode cX12_blame 70 = .ok (.istore 4, 2) := by decide +kernel
theorem dX12_blame_72 : decode cX12_blame 72 = .ok (.iload 4, 2) := by decide +kernel
theorem dX12_blame_74 : decode cX12_blame 74 = .ok (.sipush 168, 3) := by decide +kernel
theorem dX12_blame_77 : decode cX12_blame 77 = .ok (.if_icmp .ge 32, 3) := by decide +kernel
theorem dX12_blame_80 : decode cX12_blame 80 = .ok (.aload_n 0, 1) := by decide +kernel
theorem dX12_blame_81 : decode cX12_blame 81 = .ok (.getfield 67, 3) := by decide +kernel
theorem dX12_blame_84 : decode cX12_blame 84 = .ok (.iload 4, 2) := by decide +kernel
theorem dX12_blame_86 : decode cX12_blame 86 = .ok (.baload, 1) := by decide +kernel
theorem dX12_blame_87 : decode cX12_blame 87 = .ok (.ifCond .eq 16, 3) := by decide +kernel
theorem dX12_blame_90 : decode cX12_blame 90 = .ok (.aload_n 0, 1) := by decide +kernel
theorem dX12_blame_91 : decode cX12_blame 91 = .ok (.iload_n 2, 1) := by decide +kernel
theorem dX12_blame_92 : decode cX12_blame 92 = .ok (.iload 4, 2) := by decide +kernel
theorem dX12_blame_94 : decode cX12_blame 94 = .ok (.invokevirtual 319, 3) := by decide +kernel
theorem dX12_blame_97 : decode cX12_blame 97 = .ok (.ifCond .ne 6, 3) := by decide +kernel
theorem dX12_blame_100 : decode cX12_blame 100 = .ok (.iinc 3 1, 3) := by decide +kernel
theorem dX12_blame_103 : decode cX12_blame 103 = .ok (.iinc 4 1, 3) := by decide +kernel
theorem dX12_blame_106 : decode cX12_blame 106 = .ok (.goto (-34), 3) := by decide +kernel
theorem dX12_blame_109 : decode cX12_blame 109 = .ok (.iload_n 3, 1) := by decide +kernel
theorem dX12_blame_110 : decode cX12_blame 110 = .ok (.ireturn, 1) := by decide +kernel
theorem dX12_duty_0 : decode cX12_duty 0 = .ok (.aload_n 0, 1) := by decide +kernel
theorem dX12_duty_1 : decode cX12_duty 1 = .ok (.iconst 0, 1) := by decide +kernel
theorem dX12_duty_2 : decode cX12_duty 2 = .ok (.putfield 91, 3) := by decide +kernel
theorem dX12_duty_5 : decode cX12_duty 5 = .ok (.aload_n 0, 1) := by decide +kernel
theorem dX12_duty_6 : decode cX12_duty 6 = .ok (.invokevirtual 175, 3) := by decide +kernel
theorem dX12_duty_9 : decode cX12_duty 9 = .ok (.aload_n 0, 1) := by decide +kernel
theorem dX12_duty_10 : decode cX12_duty 10 = .ok (.iload_n 1, 1) := by decide +kernel
theorem dX12_duty_11 : decode cX12_duty 11 = .ok (.invokevirtual 274, 3) := by decide +kernel
theorem dX12_duty_14 : decode cX12_duty 14 = .ok (.ifCond .ne 5, 3) := by decide +kernel
theorem dX12_duty_17 : decode cX12_duty 17 = .ok (.iconst (-1), 1) := by decide +kernel
theorem dX12_duty_18 : decode cX12_duty 18 = .ok (.ireturn, 1) := by decide +kernel
theorem dX12_duty_19 : decode cX12_duty 19 = .ok (.aload_n 0, 1) := by decide +kernel
theorem dX12_duty_20 : decode cX12_duty 20 = .ok (.iconst (-1), 1) := by decide +kernel
theorem dX12_duty_21 : decode cX12_duty 21 = .ok (.invokevirtual 304, 3) := by decide +kernel
theorem dX12_duty_24 : decode cX12_duty 24 = .ok (.aload_n 0, 1) := by decide +kernel
theorem dX12_duty_25 : decode cX12_duty 25 = .ok (.getfield 13, 3) := by decide +kernel
theorem dX12_duty_28 : decode cX12_duty 28 = .ok (.bipush 30, 2) := by decide +kernel
theorem dX12_duty_30 : decode cX12_duty 30 = .ok (.bipush 6, 2) := by decide +kernel
theorem dX12_duty_32 : decode cX12_duty 32 = .ok (.iload_n 1, 1) := by decide +kernel
theorem dX12_duty_33 : decode cX12_duty 33 = .ok (.imul, 1) := by decide +kernel
theorem dX12_duty_34 : decode cX12_duty 34 = .ok (.iadd, 1) := by decide +kernel
theorem dX12_duty_35 : decode cX12_duty 35 = .ok (.iconst 1, 1) := by decide +kernel
theorem dX12_duty_36 : decode cX12_duty 36 = .ok (.iadd, 1) := by decide +kernel
theorem dX12_duty_37 : decode cX12_duty 37 = .ok (.iaload, 1) := by decide +kernel
theorem dX12_duty_38 : decode cX12_duty 38 = .ok (.istore_n 2, 1) := by decide +kernel
theorem dX12_duty_39 : decode cX12_duty 39 = .ok (.iconst 0, 1) := by decide +kernel
theorem dX12_duty_40 : decode cX12_duty 40 = .ok (.istore_n 3, 1) := by decide +kernel
theorem dX12_duty_41 : decode cX12_duty 41 = .ok (.iload_n 3, 1) := by decide +kernel
theorem dX12_duty_42 : decode cX12_duty 42 = .ok (.sipush 168, 3) := by decide +kernel
theorem dX12_duty_45 : decode cX12_duty 45 = .ok (.if_icmp .ge 25, 3) := by decide +kernel
theorem dX12_duty_48 : decode cX12_duty 48 = .ok (.aload_n 0, 1) := by decide +kernel
theorem dX12_duty_49 : decode cX12_duty 49 = .ok (.getfield 39, 3) := by decide +kernel
theorem dX12_duty_52 : decode cX12_duty 52 = .ok (.iload_n 3, 1) := by decide +kernel
theorem dX12_duty_53 : decode cX12_duty 53 = .ok (.iaload, 1) := by decide +kernel
theorem dX12_duty_54 : decode cX12_duty 54 = .ok (.iload_n 1, 1) := by decide +kernel
