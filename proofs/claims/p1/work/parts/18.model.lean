theorem dX12_init_0 : decode cX12_init 0 = .ok (.aload_n 0, 1) := by decide +kernel
theorem dX12_init_1 : decode cX12_init 1 = .ok (.invokespecial 1, 3) := by decide +kernel
theorem dX12_init_4 : decode cX12_init 4 = .ok (.aload_n 0, 1) := by decide +kernel
theorem dX12_init_5 : decode cX12_init 5 = .ok (.sipush 192, 3) := by decide +kernel
theorem dX12_init_8 : decode cX12_init 8 = .ok (.newarray .int, 2) := by decide +kernel
theorem dX12_init_10 : decode cX12_init 10 = .ok (.putfield 9, 3) := by decide +kernel
theorem dX12_init_13 : decode cX12_init 13 = .ok (.aload_n 0, 1) := by decide +kernel
theorem dX12_init_14 : decode cX12_init 14 = .ok (.sipush 960, 3) := by decide +kernel
theorem dX12_init_17 : decode cX12_init 17 = .ok (.newarray .int, 2) := by decide +kernel
theorem dX12_init_19 : decode cX12_init 19 = .ok (.putfield 13, 3) := by decide +kernel
theorem dX12_init_22 : decode cX12_init 22 = .ok (.aload_n 0, 1) := by decide +kernel
theorem dX12_init_23 : decode cX12_init 23 = .ok (.bipush 17, 2) := by decide +kernel
theorem dX12_init_25 : decode cX12_init 25 = .ok (.newarray .boolean, 2) := by decide +kernel
theorem dX12_init_27 : decode cX12_init 27 = .ok (.putfield 16, 3) := by decide +kernel
theorem dX12_init_30 : decode cX12_init 30 = .ok (.aload_n 0, 1) := by decide +kernel
theorem dX12_init_31 : decode cX12_init 31 = .ok (.bipush 17, 2) := by decide +kernel
theorem dX12_init_33 : decode cX12_init 33 = .ok (.newarray .boolean, 2) := by decide +kernel
theorem dX12_init_35 : decode cX12_init 35 = .ok (.putfield 20, 3) := by decide +kernel
theorem dX12_init_38 : decode cX12_init 38 = .ok (.aload_n 0, 1) := by decide +kernel
theorem dX12_init_39 : decode cX12_init 39 = .ok (.bipush 119, 2) := by decide +kernel
theorem dX12_init_41 : decode cX12_init 41 = .ok (.newarray .int, 2) := by decide +kernel
theorem dX12_init_43 : decode cX12_init 43 = .ok (.putfield 23, 3) := by decide +kernel
theorem dX12_init_46 : decode cX12_init 46 = .ok (.aload_n 0, 1) := by decide +kernel
theorem dX12_init_47 : decode cX12_init 47 = .ok (.sipush 4096, 3) := by decide +kernel
theorem dX12_init_50 : decode cX12_init 50 = .ok (.newarray .int, 2) := by decide +kernel
theorem dX12_init_52 : decode cX12_init 52 = .ok (.putfield 26, 3) := by decide +kernel
theorem dX12_init_55 : decode cX12_init 55 = .ok (.aload_n 0, 1) := by decide +kernel
theorem dX12_init_56 : decode cX12_init 56 = .ok (.sipush 400, 3) := by decide +kernel
theorem dX12_init_59 : decode cX12_init 59 = .ok (.newarray .boolean, 2) := by decide +kernel
theorem dX12_init_61 : decode cX12_init 61 = .ok (.putfield 29, 3) := by decide +kernel
theorem dX12_init_64 : decode cX12_init 64 = .ok (.aload_n 0, 1) := by decide +kernel
theorem dX12_init_65 : decode cX12_init 65 = .ok (.sipush 2000, 3) := by decide +kernel
theorem dX12_init_68 : decode cX12_init 68 = .ok (.newarray .int, 2) := by decide +kernel
theorem dX12_init_70 : decode cX12_init 70 = .ok (.putfield 32, 3) := by decide +kernel
theorem dX12_init_73 : decode cX12_init 73 = .ok (.aload_n 0, 1) := by decide +kernel
theorem dX12_init_74 : decode cX12_init 74 = .ok (.sipush 12800, 3) := by decide +kernel
theorem dX12_init_77 : decode cX12_init 77 = .ok (.newarray .int, 2) := by decide +kernel
theorem dX12_init_79 : decode cX12_init 79 = .ok (.putfield 35, 3) := by decide +kernel
theorem dX12_init_82 : decode cX12_init 82 = .ok (.aload_n 0, 1) := by decide +kernel
theorem dX12_init_83 : decode cX12_init 83 = .ok (.bipush 16, 2) := by decide +kernel
theorem dX12_init_85 : decode cX12_init 85 = .ok (.newarray .boolean, 2) := by decide +kernel
theorem dX12_init_87 : decode cX12_init 87 = .ok (.putfield 38, 3) := by decide +kernel
theorem dX12_init_90 : decode cX12_init 90 = .ok (.aload_n 0, 1) := by decide +kernel
theorem dX12_init_91 : decode cX12_init 91 = .ok (.bipush 16, 2) := by decide +kernel
theorem dX12_init_93 : decode cX12_init 93 = .ok (.newarray .boolean, 2) := by decide +kernel
theorem dX12_init_95 : decode cX12_init 95 = .ok (.putfield 41, 3) := by decide +kernel
theorem dX12_init_98 : decode cX12_init 98 = .ok (.aload_n 0, 1) := by decide +kernel
theorem dX12_init_99 : decode cX12_init 99 = .ok (.bipush 16, 2) := by decide +kernel
theorem dX12_init_101 : decode cX12_init 101 = .ok (.newarray .int, 2) := by decide +kernel
theorem dX12_init_103 : decode cX12_init 103 = .ok (.putfield 44, 3) := by decide +kernel
theorem dX12_init_106 : decode cX12_init 106 = .ok (.aload_n 0, 1) := by decide +kernel
theorem dX12_init_107 : decode cX12_init 107 = .ok (.bipush 16, 2) := by decide +kernel
theorem dX12_init_109 : decode cX12_init 109 = .ok (.newarray .int, 2) := by decide +kernel
theorem dX12_init_111 : decode cX12_init 111 = .ok (.putfield 47, 3) := by decide +kernel
theorem dX12_init_114 : decode cX12_init 114 = .ok (.aload_n 0, 1) := by decide +kernel
theorem dX12_init_115 : decode cX12_init 115 = .ok (.sipush 256, 3) := by decide +kernel
theorem dX12_init_118 : decode cX12_init 118 = .ok (.newarray .int, 2) := by decide +kernel
theorem dX12_init_120 : decode cX12_init 120 = .ok (.putfield 50, 3) := by decide +kernel
theorem dX12_init_123 : decode cX12_init 123 = .ok (.aload_n 0, 1) := by decide +kernel
theorem dX12_init_124 : decode cX12_init 124 = .ok (.bipush 16, 2) := by decide +kernel
theorem dX12_init_126 : decode cX12_init 126 = .ok (.newarray .boolean, 2) := by decide +kernel
theorem dX12_init_128 : decode cX12_init 128 = .ok (.putfield 53, 3) := by decide +kernel
theorem dX12_init_131 : decode cX12_init 131 = .ok (.aload_n 0, 1) := by decide +kernel
theorem dX12_init_132 : decode cX12_init 132 = .ok (.bipush 16, 2) := by decide +kernel
theorem dX12_init_134 : decode cX12_init 134 = .ok (.newarray .boolean, 2) := by decide +kernel
theorem dX12_init_136 : decode cX12_init 136 = .ok (.putfield 56, 3) := by decide +kernel
theorem dX12_init_139 : decode cX12_init 139 = .ok (.aload_n 0, 1) := by decide +kernel
theorem dX12_init_140 : decode cX12_init 140 = .ok (.bipush 16, 2) := by decide +kernel
theorem dX12_init_142 : decode cX12_init 142 = .ok (.newarray .int, 2) := by decide +kernel
theorem dX12_init_144 : decode cX12_init 144 = .ok (.putfield 59, 3) := by decide +kernel
theorem dX12_init_147 : decode cX12_init 147 = .ok (.aload_n 0, 1) := by decide +kernel
theorem dX12_init_148 : decode cX12_init 148 = .ok (.sipush 24000, 3) := by decide +kernel
theorem dX12_init_151 : decode cX12_init 151 = .ok (.newarray .byte, 2) := by decide +kernel
theorem dX12_init_153 : decode cX12_init 153 = .ok (.putfield 62, 3) := by decide +kernel
theorem dX12_init_156 : decode cX12_init 156 = .ok (.aload_n 0, 1) := by decide +kernel
theorem dX12_init_157 : decode cX12_init 157 = .ok (.sipush 12000, 3) := by decide +kernel
theorem dX12_init_160 : decode cX12_init 160 = .ok (.newarray .byte, 2) := by decide +kernel
theorem dX12_init_162 : decode cX12_init 162 = .ok (.putfield 66, 3) := by decide +kernel
theorem dX12_init_165 : decode cX12_init 165 = .ok (.aload_n 0, 1) := by decide +kernel
theorem dX12_init_166 : decode cX12_init 166 = .ok (.bipush 7, 2) := by decide +kernel
theorem dX12_init_168 : decode cX12_init 168 = .ok (.newarray .int, 2) := by decide +kernel
theorem dX12_init_170 : decode cX12_init 170 = .ok (.putfield 69, 3) := by decide +kernel
theorem dX12_init_173 : decode cX12_init 173 = .ok (.aload_n 0, 1) := by decide +kernel
theorem dX12_init_174 : decode cX12_init 174 = .ok (.bipush 6, 2) := by decide +kernel
theorem dX12_init_176 : decode cX12_init 176 = .ok (.newarray .int, 2) := by decide +kernel
theorem dX12_init_178 : decode cX12_init 178 = .ok (.putfield 72, 3) := by decide +kernel
theorem dX12_init_181 : decode cX12_init 181 = .ok (.aload_n 0, 1) := by decide +kernel
theorem dX12_init_182 : decode cX12_init 182 = .ok (.sipush 8000, 3) := by decide +kernel
theorem dX12_init_185 : decode cX12_init 185 = .ok (.newarray .byte, 2) := by decide +kernel
theorem dX12_init_187 : decode cX12_init 187 = .ok (.putfield 75, 3) := by decide +kernel
theorem dX12_init_190 : decode cX12_init 190 = .ok (.aload_n 0, 1) := by decide +kernel
theorem dX12_init_191 : decode cX12_init 191 = .ok (.sipush 6000, 3) := by decide +kernel
theorem dX12_init_194 : decode cX12_init 194 = .ok (.newarray .byte, 2) := by decide +kernel
theorem dX12_init_196 : decode cX12_init 196 = .ok (.putfield 78, 3) := by decide +kernel
theorem dX12_init_199 : decode cX12_init 199 = .ok (.aload_n 0, 1) := by decide +kernel
theorem dX12_init_200 : decode cX12_init 200 = .ok (.ldc 81, 2) := by decide +kernel
theorem dX12_init_202 : decode cX12_init 202 = .ok (.newarray .byte, 2) := by decide +kernel
theorem dX12_init_204 : decode cX12_init 204 = .ok (.putfield 82, 3) := by decide +kernel
theorem dX12_init_207 : decode cX12_init 207 = .ok (.aload_n 0, 1) := by decide +kernel
theorem dX12_init_208 : decode cX12_init 208 = .ok (.ldc 85, 2) := by decide +kernel
theorem dX12_init_210 : decode cX12_init 210 = .ok (.newarray .byte, 2) := by decide +kernel
theorem dX12_init_212 : decode cX12_init 212 = .ok (.putfield 86, 3) := by decide +kernel
theorem dX12_init_215 : decode cX12_init 215 = .ok (.aload_n 0, 1) := by decide +kernel
theorem dX12_init_216 : decode cX12_init 216 = .ok (.bipush 12, 2) := by decide +kernel
theorem dX12_init_218 : decode cX12_init 218 = .ok (.newarray .int, 2) := by decide +kernel
theorem dX12_init_220 : decode cX12_init 220 = .ok (.putfield 89, 3) := by decide +kernel
theorem dX12_init_223 : decode cX12_init 223 = .ok (.aload_n 0, 1) := by decide +kernel
theorem dX12_init_224 : decode cX12_init 224 = .ok (.bipush 12, 2) := by decide +kernel
theorem dX12_init_226 : decode cX12_init 226 = .ok (.newarray .int, 2) := by decide +kernel
theorem dX12_init_228 : decode cX12_init 228 = .ok (.putfield 92, 3) := by decide +kernel
theorem dX12_init_231 : decode cX12_init 231 = .ok (.aload_n 0, 1) := by decide +kernel
theorem dX12_init_232 : decode cX12_init 232 = .ok (.ldc 95, 2) := by decide +kernel
theorem dX12_init_234 : decode cX12_init 234 = .ok (.newarray .byte, 2) := by decide +kernel
theorem dX12_init_236 : decode cX12_init 236 = .ok (.putfield 96, 3) := by decide +kernel
theorem dX12_init_239 : decode cX12_init 239 = .ok (.aload_n 0, 1) := by decide +kernel
theorem dX12_init_240 : decode cX12_init 240 = .ok (.bipush 12, 2) := by decide +kernel
theorem dX12_init_242 : decode cX12_init 242 = .ok (.newarray .int, 2) := by decide +kernel
theorem dX12_init_244 : decode cX12_init 244 = .ok (.putfield 99, 3) := by decide +kernel
theorem dX12_init_247 : decode cX12_init 247 = .ok (.aload_n 0, 1) := by decide +kernel
theorem dX12_init_248 : decode cX12_init 248 = .ok (.bipush 20, 2) := by decide +kernel
theorem dX12_init_250 : decode cX12_init 250 = .ok (.newarray .int, 2) := by decide +kernel
theorem dX12_init_252 : decode cX12_init 252 = .ok (.putfield 102, 3) := by decide +kernel
theorem dX12_init_255 : decode cX12_init 255 = .ok (.aload_n 0, 1) := by decide +kernel
theorem dX12_init_256 : decode cX12_init 256 = .ok (.bipush 17, 2) := by decide +kernel
theorem dX12_init_258 : decode cX12_init 258 = .ok (.newarray .boolean, 2) := by decide +kernel
theorem dX12_init_260 : decode cX12_init 260 = .ok (.putfield 105, 3) := by decide +kernel
theorem dX12_init_263 : decode cX12_init 263 = .ok (.aload_n 0, 1) := by decide +kernel
theorem dX12_init_264 : decode cX12_init 264 = .ok (.sipush 148, 3) := by decide +kernel
theorem dX12_init_267 : decode cX12_init 267 = .ok (.newarray .int, 2) := by decide +kernel
theorem dX12_init_269 : decode cX12_init 269 = .ok (.putfield 108, 3) := by decide +kernel
theorem dX12_init_272 : decode cX12_init 272 = .ok (.aload_n 0, 1) := by decide +kernel
theorem dX12_init_273 : decode cX12_init 273 = .ok (.sipush 148, 3) := by decide +kernel
theorem dX12_init_276 : decode cX12_init 276 = .ok (.newarray .int, 2) := by decide +kernel
theorem dX12_init_278 : decode cX12_init 278 = .ok (.putfield 111, 3) := by decide +kernel
theorem dX12_init_281 : decode cX12_init 281 = .ok (.aload_n 0, 1) := by decide +kernel
theorem dX12_init_282 : decode cX12_init 282 = .ok (.sipush 640, 3) := by decide +kernel
theorem dX12_init_285 : decode cX12_init 285 = .ok (.newarray .int, 2) := by decide +kernel
theorem dX12_init_287 : decode cX12_init 287 = .ok (.putfield 114, 3) := by decide +kernel
theorem dX12_init_290 : decode cX12_init 290 = .ok (.aload_n 0, 1) := by decide +kernel
theorem dX12_init_291 : decode cX12_init 291 = .ok (.sipush 640, 3) := by decide +kernel
theorem dX12_init_294 : decode cX12_init 294 = .ok (.newarray .int, 2) := by decide +kernel
theorem dX12_init_296 : decode cX12_init 296 = .ok (.putfield 117, 3) := by decide +kernel
theorem dX12_init_299 : decode cX12_init 299 = .ok (.aload_n 0, 1) := by decide +kernel
theorem dX12_init_300 : decode cX12_init 300 = .ok (.bipush 12, 2) := by decide +kernel
theorem dX12_init_302 : decode cX12_init 302 = .ok (.newarray .int, 2) := by decide +kernel
theorem dX12_init_304 : decode cX12_init 304 = .ok (.putfield 120, 3) := by decide +kernel
theorem dX12_init_307 : decode cX12_init 307 = .ok (.aload_n 0, 1) := by decide +kernel
theorem dX12_init_308 : decode cX12_init 308 = .ok (.sipush 400, 3) := by decide +kernel
theorem dX12_init_311 : decode cX12_init 311 = .ok (.newarray .int, 2) := by decide +kernel
theorem dX12_init_313 : decode cX12_init 313 = .ok (.putfield 123, 3) := by decide +kernel
theorem dX12_init_316 : decode cX12_init 316 = .ok (.aload_n 0, 1) := by decide +kernel
theorem dX12_init_317 : decode cX12_init 317 = .ok (.sipush 400, 3) := by decide +kernel
theorem dX12_init_320 : decode cX12_init 320 = .ok (.newarray .long, 2) := by decide +kernel
theorem dX12_init_322 : decode cX12_init 322 = .ok (.putfield 126, 3) := by decide +kernel
theorem dX12_init_325 : decode cX12_init 325 = .ok (.aload_n 0, 1) := by decide +kernel
theorem dX12_init_326 : decode cX12_init 326 = .ok (.bipush 40, 2) := by decide +kernel
theorem dX12_init_328 : decode cX12_init 328 = .ok (.newarray .long, 2) := by decide +kernel
theorem dX12_init_330 : decode cX12_init 330 = .ok (.putfield 130, 3) := by decide +kernel
theorem dX12_init_333 : decode cX12_init 333 = .ok (.aload_n 0, 1) := by decide +kernel
theorem dX12_init_334 : decode cX12_init 334 = .ok (.bipush 40, 2) := by decide +kernel
theorem dX12_init_336 : decode cX12_init 336 = .ok (.newarray .long, 2) := by decide +kernel
theorem dX12_init_338 : decode cX12_init 338 = .ok (.putfield 133, 3) := by decide +kernel
theorem dX12_init_341 : decode cX12_init 341 = .ok (.iconst 0, 1) := by decide +kernel
theorem dX12_init_342 : decode cX12_init 342 = .ok (.istore_n 1, 1) := by decide +kernel
theorem dX12_init_343 : decode cX12_init 343 = .ok (.iload_n 1, 1) := by decide +kernel
theorem dX12_init_344 : decode cX12_init 344 = .ok (.sipush 4096, 3) := by decide +kernel
theorem dX12_init_347 : decode cX12_init 347 = .ok (.if_icmp .ge 16, 3) := by decide +kernel
theorem dX12_init_350 : decode cX12_init 350 = .ok (.aload_n 0, 1) := by decide +kernel
theorem dX12_init_351 : decode cX12_init 351 = .ok (.getfield 26, 3) := by decide +kernel
theorem dX12_init_354 : decode cX12_init 354 = .ok (.iload_n 1, 1) := by decide +kernel
theorem dX12_init_355 : decode cX12_init 355 = .ok (.iconst (-1), 1) := by decide +kernel
theorem dX12_init_356 : decode cX12_init 356 = .ok (.iastore, 1) := by decide +kernel
theorem dX12_init_357 : decode cX12_init 357 = .ok (.iinc 1 1, 3) := by decide +kernel
theorem dX12_init_360 : decode cX12_init 360 = .ok (.goto (-17), 3) := by decide +kernel
theorem dX12_init_363 : decode cX12_init 363 = .ok (.aload_n 0, 1) := by decide +kernel
theorem dX12_init_364 : decode cX12_init 364 = .ok (.getfield 16, 3) := by decide +kernel
theorem dX12_init_367 : decode cX12_init 367 = .ok (.bipush 16, 2) := by decide +kernel
theorem dX12_init_369 : decode cX12_init 369 = .ok (.iconst 1, 1) := by decide +kernel
theorem dX12_init_370 : decode cX12_init 370 = .ok (.bastore, 1) := by decide +kernel
theorem dX12_init_371 : decode cX12_init 371 = .ok (.aload_n 0, 1) := by decide +kernel
theorem dX12_init_372 : decode cX12_init 372 = .ok (.getfield 23, 3) := by decide +kernel
theorem dX12_init_375 : decode cX12_init 375 = .ok (.bipush 113, 2) := by decide +kernel
theorem dX12_init_377 : decode cX12_init 377 = .ok (.sipush 720, 3) := by decide +kernel
theorem dX12_init_380 : decode cX12_init 380 = .ok (.iastore, 1) := by decide +kernel
theorem dX12_init_381 : decode cX12_init 381 = .ok (.aload_n 0, 1) := by decide +kernel
theorem dX12_init_382 : decode cX12_init 382 = .ok (.getfield 23, 3) := by decide +kernel
theorem dX12_init_385 : decode cX12_init 385 = .ok (.bipush 114, 2) := by decide +kernel
theorem dX12_init_387 : decode cX12_init 387 = .ok (.bipush 8, 2) := by decide +kernel
theorem dX12_init_389 : decode cX12_init 389 = .ok (.iastore, 1) := by decide +kernel
theorem dX12_init_390 : decode cX12_init 390 = .ok (.aload_n 0, 1) := by decide +kernel
theorem dX12_init_391 : decode cX12_init 391 = .ok (.iconst (-1), 1) := by decide +kernel
theorem dX12_init_392 : decode cX12_init 392 = .ok (.putfield 136, 3) := by decide +kernel
theorem dX12_init_395 : decode cX12_init 395 = .ok (.aload_n 0, 1) := by decide +kernel
theorem dX12_init_396 : decode cX12_init 396 = .ok (.iconst (-1), 1) := by decide +kernel
theorem dX12_init_397 : decode cX12_init 397 = .ok (.putfield 140, 3) := by decide +kernel
theorem dX12_init_400 : decode cX12_init 400 = .ok (.aload_n 0, 1) := by decide +kernel
theorem dX12_init_401 : decode cX12_init 401 = .ok (.invokevirtual 143, 3) := by decide +kernel
theorem dX12_init_404 : decode cX12_init 404 = .ok (.return_, 1) := by decide +kernel
set_option maxRecDepth 100000 in
set_option maxHeartbeats 4000000 in
theorem c_X12_init (S : Hp) (h : Nat) (hm : h ∈ hL S) (hk : hK S h = 12) : Ct 7 yX12_init cX12_init 2 none 40 965531 [.ref h] S (fun r S' => r = none ∧ Fm (fun f9 b9 => (f9 = 1244 ∧ b9 = h) ∨ (f9 = 1245 ∧ b9 = h)) (fun f9 b9 => b9 = h) (fun _ => False) S S' ∧ hI S' 1244 h = (-1) ∧ hI S' 1245 h = (-1) ∧ ∃ p0 p1 p2 p3 p4 p5 p6 p7 p8 p9 p10 p11 p12 p13 : Nat, p0 ∉ hL S ∧ p0 ∈ hL S' ∧ Kd S' p0 13 ∧ Ln S' p0 12000 ∧ hR S' 1219 h = some p0 ∧ p1 ∉ hL S ∧ p1 ∈ hL S' ∧ Kd S' p1 14 ∧ Ln S' p1 7 ∧ hR S' 1220 h = some p1 ∧ (∀ j, aI S' p1 j = 0) ∧ p2 ∉ hL S ∧ p2 ∈ hL S' ∧ Kd S' p2 14 ∧ Ln S' p2 6 ∧ hR S' 1221 h = some p2 ∧ p3 ∉ hL S ∧ p3 ∈ hL S' ∧ Kd S' p3 13 ∧ Ln S' p3 8000 ∧ hR S' 1223 h = some p3 ∧ p4 ∉ hL S ∧ p4 ∈ hL S' ∧ Kd S' p4 13 ∧ Ln S' p4 64000 ∧ hR S' 1234 h = some p4 ∧ p5 ∉ hL S ∧ p5 ∈ hL S' ∧ Kd S' p5 17 ∧ Ln S' p5 17 ∧ hR S' 1202 h = some p5 ∧ (∀ j, j < 16 → aI S' p5 j = 0) ∧ p6 ∉ hL S ∧ p6 ∈ hL S' ∧ Kd S' p6 17 ∧ Ln S' p6 16 ∧ hR S' 1210 h = some p6 ∧ (∀ j, aI S' p6 j = 0) ∧ p7 ∉ hL S ∧ p7 ∈ hL S' ∧ Kd S' p7 17 ∧ Ln S' p7 16 ∧ hR S' 1215 h = some p7 ∧ (∀ j, aI S' p7 j = 0) ∧ p8 ∉ hL S ∧ p8 ∈ hL S' ∧ Kd S' p8 14 ∧ Ln S' p8 16 ∧ hR S' 1217 h = some p8 ∧ p9 ∉ hL S ∧ p9 ∈ hL S' ∧ Kd S' p9 13 ∧ Ln S' p9 60008 ∧ hR S' 1241 h = some p9 ∧ p10 ∉ hL S ∧ p10 ∈ hL S' ∧ Kd S' p10 17 ∧ Ln S' p10 17 ∧ hR S' 1203 h = some p10 ∧ p11 ∉ hL S ∧ p11 ∈ hL S' ∧ Kd S' p11 17 ∧ Ln S' p11 16 ∧ hR S' 1211 h = some p11 ∧ p12 ∉ hL S ∧ p12 ∈ hL S' ∧ Kd S' p12 17 ∧ Ln S' p12 16 ∧ hR S' 1216 h = some p12 ∧ p13 ∉ hL S ∧ p13 ∈ hL S' ∧ Kd S' p13 14 ∧ Ln S' p13 12 ∧ hR S' 1246 h = some p13) := by
  refine ct_of (by decide) (Nat.le_of_ble_eq_true rfl) fun x hn9 C M hm9 => ?_
  have C : CB x RX12 cX12_init := C
  refine J.eq (lv' := [(0, .ref h)]) rfl rfl rfl ?_
  refine j_aload_n C dX12_init_0 rfl 0 rfl ?_
  refine j_objInit C mlX12_1 nst_oi (M.fl (by decide)) dX12_init_1 ?_
  refine j_aload_n C dX12_init_4 rfl 0 rfl ?_
  refine j_sipush (v := 192) C dX12_init_5 (by decide) ?_
  refine j_newI (N := 192) C ka_int (by decide) (by decide) (Nat.le_of_ble_eq_true rfl) (M.cells (by decide)) (M.slots (Nat.le_of_ble_eq_true rfl)) dX12_init_8 (fun q_1 hq_2 => ?_)
  have hz_3 : q_1 ∉ hL S := hq_2
  refine j_putrF (f := 1200) C hm9 flX12_9o (by decide) rfl rfl dX12_init_10 (mem_old hm) (kd_nA (k := 14) (n := 192) hq_2 hm hk) rfl ?_
  refine j_aload_n C dX12_init_13 rfl 0 rfl ?_
  refine j_sipush (v := 960) C dX12_init_14 (by decide) ?_
  show J _ _ _ _ _ 17 _
  have hf_6 : Fm (fun f9 b9 => (f9 = 1244 ∧ b9 = h) ∨ (f9 = 1245 ∧ b9 = h)) (fun f9 b9 => b9 = h) (fun _ => False) S (sR (nA S q_1 14 192) 1200 h (some q_1)) := (((Fm.refl (WI := (fun f9 b9 => (f9 = 1244 ∧ b9 = h) ∨ (f9 = 1245 ∧ b9 = h))) (WR := (fun f9 b9 => b9 = h)) (WA := (fun _ => False))).nA _ _ hq_2).sR _ (fun _ => rfl))
  refine j_newI (N := 960) C ka_int (by decide) (by decide) (Nat.le_of_ble_eq_true rfl) (M.cells (by decide)) (M.slots (Nat.le_of_ble_eq_true rfl)) dX12_init_17 (fun q_4 hq_5 => ?_)
  have hz_7 : q_4 ∉ hL S := fun h9 => hq_5 (hf_6.mem h9)
  refine j_putrF (f := 1201) C hm9 flX12_13o (by decide) rfl rfl dX12_init_19 (mem_old (mem_old hm)) (kd_nA (k := 14) (n := 960) hq_5 (mem_old hm) (kd_nA (k := 14) (n := 192) hq_2 hm hk)) rfl ?_
  refine j_aload_n C dX12_init_22 rfl 0 rfl ?_
  refine j_bipush (v := 17) C dX12_init_23 (by decide) ?_
  have hf_10 : Fm (fun f9 b9 => (f9 = 1244 ∧ b9 = h) ∨ (f9 = 1245 ∧ b9 = h)) (fun f9 b9 => b9 = h) (fun _ => False) S (sR (nA (sR (nA S q_1 14 192) 1200 h (some q_1)) q_4 14 960) 1201 h (some q_4)) := ((hf_6.nA _ _ hq_5).sR _ (fun _ => rfl))
  refine j_newZ (N := 17) C ka_boolean (by decide) (by decide) (Nat.le_of_ble_eq_true rfl) (M.cells (by decide)) (M.slots (Nat.le_of_ble_eq_true rfl)) dX12_init_25 (fun q_8 hq_9 => ?_)
  have hz_11 : q_8 ∉ hL S := fun h9 => hq_9 (hf_10.mem h9)
  refine j_putrF (f := 1202) C hm9 flX12_16o (by decide) rfl rfl dX12_init_27 (mem_old (mem_old (mem_old hm))) (kd_nA (k := 17) (n := 17) hq_9 (mem_old (mem_old hm)) (kd_nA (k := 14) (n := 960) hq_5 (mem_old hm) (kd_nA (k := 14) (n := 192) hq_2 hm hk))) rfl ?_
  refine j_aload_n C dX12_init_30 rfl 0 rfl ?_
  refine j_bipush (v := 17) C dX12_init_31 (by decide) ?_
  show J _ _ _ _ _ 33 _
  have hf_14 : Fm (fun f9 b9 => (f9 = 1244 ∧ b9 = h) ∨ (f9 = 1245 ∧ b9 = h)) (fun f9 b9 => b9 = h) (fun _ => False) S (sR (nA (sR (nA (sR (nA S q_1 14 192) 1200 h (some q_1)) q_4 14 960) 1201 h (some q_4)) q_8 17 17) 1202 h (some q_8)) := ((hf_10.nA _ _ hq_9).sR _ (fun _ => rfl))
  obtain ⟨S_12, eS_13⟩ : ∃ S9 : Hp, S9 = (sR (nA (sR (nA (sR (nA S q_1 14 192) 1200 h (some q_1)) q_4 14 960) 1201 h (some q_4)) q_8 17 17) 1202 h (some q_8)) := ⟨_, rfl⟩
  refine J.eq (S' := S_12) eS_13.symm rfl rfl ?_
  have hm_15 : h ∈ hL S_12 := by rw [eS_13]; exact (mem_old (mem_old (mem_old hm)))
  have hk_16 : Kd S_12 h 12 := by rw [eS_13]; exact (kd_nA (k := 17) (n := 17) hq_9 (mem_old (mem_old hm)) (kd_nA (k := 14) (n := 960) hq_5 (mem_old hm) (kd_nA (k := 14) (n := 192) hq_2 hm hk)))
  have hm_17 : q_8 ∈ hL S_12 := by rw [eS_13]; exact mem_new
  have hk_18 : Kd S_12 q_8 17 := by rw [eS_13]; exact (kd_nA' (k := 17) (n := 17))
  have hn_19 : Ln S_12 q_8 17 := by rw [eS_13]; exact (ln_nA' (k := 17))
  have hz_20 : ∀ j, aI S_12 q_8 j = 0 := by rw [eS_13]; exact (fun j9 => rd_nAI' (k := 17) (n := 17))
  have hv_21 : hR S_12 1202 h = (some q_8) := by rw [eS_13]; exact (rd_sR (S := (nA (sR (nA (sR (nA S q_1 14 192) 1200 h (some q_1)) q_4 14 960) 1201 h (some q_4)) q_8 17 17)) (g := 1202) (a := h) (v := (some q_8)))
  have hf_22 : Fm (fun f9 b9 => (f9 = 1244 ∧ b9 = h) ∨ (f9 = 1245 ∧ b9 = h)) (fun f9 b9 => b9 = h) (fun _ => False) S S_12 := by rw [eS_13]; exact hf_14
  refine j_newZ (N := 17) C ka_boolean (by decide) (by decide) (Nat.le_of_ble_eq_true rfl) (M.cells (by decide)) (M.slots (Nat.le_of_ble_eq_true rfl)) dX12_init_33 (fun q_23 hq_24 => ?_)
  have hz_25 : q_23 ∉ hL S := fun h9 => hq_24 (hf_22.mem h9)
  refine j_putrF (f := 1203) C hm9 flX12_20o (by decide) rfl rfl dX12_init_35 (mem_old hm_15) (kd_nA (k := 17) (n := 17) hq_24 hm_15 hk_16) rfl ?_
  refine j_aload_n C dX12_init_38 rfl 0 rfl ?_
  refine j_bipush (v := 119) C dX12_init_39 (by decide) ?_
  have hf_28 : Fm (fun f9 b9 => (f9 = 1244 ∧ b9 = h) ∨ (f9 = 1245 ∧ b9 = h)) (fun f9 b9 => b9 = h) (fun _ => False) S (sR (nA S_12 q_23 17 17) 1203 h (some q_23)) := ((hf_22.nA _ _ hq_24).sR _ (fun _ => rfl))
  refine j_newI (N := 119) C ka_int (by decide) (by decide) (Nat.le_of_ble_eq_true rfl) (M.cells (by decide)) (M.slots (Nat.le_of_ble_eq_true rfl)) dX12_init_41 (fun q_26 hq_27 => ?_)
  have hz_29 : q_26 ∉ hL S := fun h9 => hq_27 (hf_28.mem h9)
  refine j_putrF (f := 1204) C hm9 flX12_23o (by decide) rfl rfl dX12_init_43 (mem_old (mem_old hm_15)) (kd_nA (k := 14) (n := 119) hq_27 (mem_old hm_15) (kd_nA (k := 17) (n := 17) hq_24 hm_15 hk_16)) rfl ?_
  refine j_aload_n C dX12_init_46 rfl 0 rfl ?_
  refine j_sipush (v := 4096) C dX12_init_47 (by decide) ?_
  show J _ _ _ _ _ 50 _
  have hf_32 : Fm (fun f9 b9 => (f9 = 1244 ∧ b9 = h) ∨ (f9 = 1245 ∧ b9 = h)) (fun f9 b9 => b9 = h) (fun _ => False) S (sR (nA (sR (nA S_12 q_23 17 17) 1203 h (some q_23)) q_26 14 119) 1204 h (some q_26)) := ((hf_28.nA _ _ hq_27).sR _ (fun _ => rfl))
  refine j_newI (N := 4096) C ka_int (by decide) (by decide) (Nat.le_of_ble_eq_true rfl) (M.cells (by decide)) (M.slots (Nat.le_of_ble_eq_true rfl)) dX12_init_50 (fun q_30 hq_31 => ?_)
  have hz_33 : q_30 ∉ hL S := fun h9 => hq_31 (hf_32.mem h9)
  refine j_putrF (f := 1205) C hm9 flX12_26o (by decide) rfl rfl dX12_init_52 (mem_old (mem_old (mem_old hm_15))) (kd_nA (k := 14) (n := 4096) hq_31 (mem_old (mem_old hm_15)) (kd_nA (k := 14) (n := 119) hq_27 (mem_old hm_15) (kd_nA (k := 17) (n := 17) hq_24 hm_15 hk_16))) rfl ?_
  refine j_aload_n C dX12_init_55 rfl 0 rfl ?_
  refine j_sipush (v := 400) C dX12_init_56 (by decide) ?_
  have hf_36 : Fm (fun f9 b9 => (f9 = 1244 ∧ b9 = h) ∨ (f9 = 1245 ∧ b9 = h)) (fun f9 b9 => b9 = h) (fun _ => False) S (sR (nA (sR (nA (sR (nA S_12 q_23 17 17) 1203 h (some q_23)) q_26 14 119) 1204 h (some q_26)) q_30 14 4096) 1205 h (some q_30)) := ((hf_32.nA _ _ hq_31).sR _ (fun _ => rfl))
  obtain ⟨S_34, eS_35⟩ : ∃ S9 : Hp, S9 = (sR (nA (sR (nA (sR (nA S_12 q_23 17 17) 1203 h (some q_23)) q_26 14 119) 1204 h (some q_26)) q_30 14 4096) 1205 h (some q_30)) := ⟨_, rfl⟩
  refine J.eq (S' := S_34) eS_35.symm rfl rfl ?_
  have hm_37 : h ∈ hL S_34 := by rw [eS_35]; exact (mem_old (mem_old (mem_old hm_15)))
  have hk_38 : Kd S_34 h 12 := by rw [eS_35]; exact (kd_nA (k := 14) (n := 4096) hq_31 (mem_old (mem_old hm_15)) (kd_nA (k := 14) (n := 119) hq_27 (mem_old hm_15) (kd_nA (k := 17) (n := 17) hq_24 hm_15 hk_16)))
  have hm_39 : q_23 ∈ hL S_34 := by rw [eS_35]; exact (mem_old (mem_old mem_new))
  have hk_40 : Kd S_34 q_23 17 := by rw [eS_35]; exact (kd_nA (k := 14) (n := 4096) hq_31 (mem_old mem_new) (kd_nA (k := 14) (n := 119) hq_27 mem_new (kd_nA' (k := 17) (n := 17))))
  have hn_41 : Ln S_34 q_23 17 := by rw [eS_35]; exact (ln_nA (k := 14) hq_31 (mem_old mem_new) (ln_nA (k := 14) hq_27 mem_new (ln_nA' (k := 17))))
  have hz_42 : ∀ j, aI S_34 q_23 j = 0 := by rw [eS_35]; exact (fun j9 => rd_nAI (k := 14) (n := 4096) hq_31 (mem_old mem_new) ((fun j9 => rd_nAI (k := 14) (n := 119) hq_27 mem_new ((fun j9 => rd_nAI' (k := 17) (n := 17)) j9)) j9))
  have hm_43 : q_26 ∈ hL S_34 := by rw [eS_35]; exact (mem_old mem_new)
  have hk_44 : Kd S_34 q_26 14 := by rw [eS_35]; exact (kd_nA (k := 14) (n := 4096) hq_31 mem_new (kd_nA' (k := 14) (n := 119)))
  have hn_45 : Ln S_34 q_26 119 := by rw [eS_35]; exact (ln_nA (k := 14) hq_31 mem_new (ln_nA' (k := 14)))
  have hz_46 : ∀ j, aI S_34 q_26 j = 0 := by rw [eS_35]; exact (fun j9 => rd_nAI (k := 14) (n := 4096) hq_31 mem_new ((fun j9 => rd_nAI' (k := 14) (n := 119)) j9))
  have hm_47 : q_30 ∈ hL S_34 := by rw [eS_35]; exact mem_new
  have hk_48 : Kd S_34 q_30 14 := by rw [eS_35]; exact (kd_nA' (k := 14) (n := 4096))
  have hn_49 : Ln S_34 q_30 4096 := by rw [eS_35]; exact (ln_nA' (k := 14))
  have hz_50 : ∀ j, aI S_34 q_30 j = 0 := by rw [eS_35]; exact (fun j9 => rd_nAI' (k := 14) (n := 4096))
  have hm_51 : q_8 ∈ hL S_34 := by rw [eS_35]; exact (mem_old (mem_old (mem_old hm_17)))
  have hk_52 : Kd S_34 q_8 17 := by rw [eS_35]; exact (kd_nA (k := 14) (n := 4096) hq_31 (mem_old (mem_old hm_17)) (kd_nA (k := 14) (n := 119) hq_27 (mem_old hm_17) (kd_nA (k := 17) (n := 17) hq_24 hm_17 hk_18)))
  have hn_53 : Ln S_34 q_8 17 := by rw [eS_35]; exact (ln_nA (k := 14) hq_31 (mem_old (mem_old hm_17)) (ln_nA (k := 14) hq_27 (mem_old hm_17) (ln_nA (k := 17) hq_24 hm_17 hn_19)))
  have hz_54 : ∀ j, aI S_34 q_8 j = 0 := by rw [eS_35]; exact (fun j9 => rd_nAI (k := 14) (n := 4096) hq_31 (mem_old (mem_old hm_17)) ((fun j9 => rd_nAI (k := 14) (n := 119) hq_27 (mem_old hm_17) ((fun j9 => rd_nAI (k := 17) (n := 17) hq_24 hm_17 (hz_20 j9)) j9)) j9))
  have hv_55 : hR S_34 1202 h = (some q_8) := by rw [eS_35]; exact (rd_sRf (S := (nA (sR (nA (sR (nA S_12 q_23 17 17) 1203 h (some q_23)) q_26 14 119) 1204 h (some q_26)) q_30 14 4096)) (g := 1205) (a := h) (v := (some q_30)) (by decide) (rd_sRf (S := (nA (sR (nA S_12 q_23 17 17) 1203 h (some q_23)) q_26 14 119)) (g := 1204) (a := h) (v := (some q_26)) (by decide) (rd_sRf (S := (nA S_12 q_23 17 17)) (g := 1203) (a := h) (v := (some q_23)) (by decide) hv_21)))
  have hv_56 : hR S_34 1203 h = (some q_23) := by rw [eS_35]; exact (rd_sRf (S := (nA (sR (nA (sR (nA S_12 q_23 17 17) 1203 h (some q_23)) q_26 14 119) 1204 h (some q_26)) q_30 14 4096)) (g := 1205) (a := h) (v := (some q_30)) (by decide) (rd_sRf (S := (nA (sR (nA S_12 q_23 17 17) 1203 h (some q_23)) q_26 14 119)) (g := 1204) (a := h) (v := (some q_26)) (by decide) (rd_sR (S := (nA S_12 q_23 17 17)) (g := 1203) (a := h) (v := (some q_23)))))
  have hv_57 : hR S_34 1204 h = (some q_26) := by rw [eS_35]; exact (rd_sRf (S := (nA (sR (nA (sR (nA S_12 q_23 17 17) 1203 h (some q_23)) q_26 14 119) 1204 h (some q_26)) q_30 14 4096)) (g := 1205) (a := h) (v := (some q_30)) (by decide) (rd_sR (S := (nA (sR (nA S_12 q_23 17 17) 1203 h (some q_23)) q_26 14 119)) (g := 1204) (a := h) (v := (some q_26))))
  have hv_58 : hR S_34 1205 h = (some q_30) := by rw [eS_35]; exact (rd_sR (S := (nA (sR (nA (sR (nA S_12 q_23 17 17) 1203 h (some q_23)) q_26 14 119) 1204 h (some q_26)) q_30 14 4096)) (g := 1205) (a := h) (v := (some q_30)))
  have hf_59 : Fm (fun f9 b9 => (f9 = 1244 ∧ b9 = h) ∨ (f9 = 1245 ∧ b9 = h)) (fun f9 b9 => b9 = h) (fun _ => False) S S_34 := by rw [eS_35]; exact hf_36
  refine j_newZ (N := 400) C ka_boolean (by decide) (by decide) (Nat.le_of_ble_eq_true rfl) (M.cells (by decide)) (M.slots (Nat.le_of_ble_eq_true rfl)) dX12_init_59 (fun q_60 hq_61 => ?_)
  have hz_62 : q_60 ∉ hL S := fun h9 => hq_61 (hf_59.mem h9)
  refine j_putrF (f := 1206) C hm9 flX12_29o (by decide) rfl rfl dX12_init_61 (mem_old hm_37) (kd_nA (k := 17) (n := 400) hq_61 hm_37 hk_38) rfl ?_
  refine j_aload_n C dX12_init_64 rfl 0 rfl ?_
  refine j_sipush (v := 2000) C dX12_init_65 (by decide) ?_
  show J _ _ _ _ _ 68 _
  have hf_65 : Fm (fun f9 b9 => (f9 = 1244 ∧ b9 = h) ∨ (f9 = 1245 ∧ b9 = h)) (fun f9 b9 => b9 = h) (fun _ => False) S (sR (nA S_34 q_60 17 400) 1206 h (some q_60)) := ((hf_59.nA _ _ hq_61).sR _ (fun _ => rfl))
  refine j_newI (N := 2000) C ka_int (by decide) (by decide) (Nat.le_of_ble_eq_true rfl) (M.cells (by decide)) (M.slots (Nat.le_of_ble_eq_true rfl)) dX12_init_68 (fun q_63 hq_64 => ?_)
  have hz_66 : q_63 ∉ hL S := fun h9 => hq_64 (hf_65.mem h9)
  refine j_putrF (f := 1207) C hm9 flX12_32o (by decide) rfl rfl dX12_init_70 (mem_old (mem_old hm_37)) (kd_nA (k := 14) (n := 2000) hq_64 (mem_old hm_37) (kd_nA (k := 17) (n := 400) hq_61 hm_37 hk_38)) rfl ?_
  refine j_aload_n C dX12_init_73 rfl 0 rfl ?_
  refine j_sipush (v := 12800) C dX12_init_74 (by decide) ?_
  have hf_69 : Fm (fun f9 b9 => (f9 = 1244 ∧ b9 = h) ∨ (f9 = 1245 ∧ b9 = h)) (fun f9 b9 => b9 = h) (fun _ => False) S (sR (nA (sR (nA S_34 q_60 17 400) 1206 h (some q_60)) q_63 14 2000) 1207 h (some q_63)) := ((hf_65.nA _ _ hq_64).sR _ (fun _ => rfl))
  refine j_newI (N := 12800) C ka_int (by decide) (by decide) (Nat.le_of_ble_eq_true rfl) (M.cells (by decide)) (M.slots (Nat.le_of_ble_eq_true rfl)) dX12_init_77 (fun q_67 hq_68 => ?_)
  have hz_70 : q_67 ∉ hL S := fun h9 => hq_68 (hf_69.mem h9)
  refine j_putrF (f := 1208) C hm9 flX12_35o (by decide) rfl rfl dX12_init_79 (mem_old (mem_old (mem_old hm_37))) (kd_nA (k := 14) (n := 12800) hq_68 (mem_old (mem_old hm_37)) (kd_nA (k := 14) (n := 2000) hq_64 (mem_old hm_37) (kd_nA (k := 17) (n := 400) hq_61 hm_37 hk_38))) rfl ?_
  refine j_aload_n C dX12_init_82 rfl 0 rfl ?_
  refine j_bipush (v := 16) C dX12_init_83 (by decide) ?_
  show J _ _ _ _ _ 85 _
  have hf_73 : Fm (fun f9 b9 => (f9 = 1244 ∧ b9 = h) ∨ (f9 = 1245 ∧ b9 = h)) (fun f9 b9 => b9 = h) (fun _ => False) S (sR (nA (sR (nA (sR (nA S_34 q_60 17 400) 1206 h (some q_60)) q_63 14 2000) 1207 h (some q_63)) q_67 14 12800) 1208 h (some q_67)) := ((hf_69.nA _ _ hq_68).sR _ (fun _ => rfl))
  obtain ⟨S_71, eS_72⟩ : ∃ S9 : Hp, S9 = (sR (nA (sR (nA (sR (nA S_34 q_60 17 400) 1206 h (some q_60)) q_63 14 2000) 1207 h (some q_63)) q_67 14 12800) 1208 h (some q_67)) := ⟨_, rfl⟩
  refine J.eq (S' := S_71) eS_72.symm rfl rfl ?_
  have hm_74 : h ∈ hL S_71 := by rw [eS_72]; exact (mem_old (mem_old (mem_old hm_37)))
  have hk_75 : Kd S_71 h 12 := by rw [eS_72]; exact (kd_nA (k := 14) (n := 12800) hq_68 (mem_old (mem_old hm_37)) (kd_nA (k := 14) (n := 2000) hq_64 (mem_old hm_37) (kd_nA (k := 17) (n := 400) hq_61 hm_37 hk_38)))
  have hm_76 : q_23 ∈ hL S_71 := by rw [eS_72]; exact (mem_old (mem_old (mem_old hm_39)))
  have hk_77 : Kd S_71 q_23 17 := by rw [eS_72]; exact (kd_nA (k := 14) (n := 12800) hq_68 (mem_old (mem_old hm_39)) (kd_nA (k := 14) (n := 2000) hq_64 (mem_old hm_39) (kd_nA (k := 17) (n := 400) hq_61 hm_39 hk_40)))
  have hn_78 : Ln S_71 q_23 17 := by rw [eS_72]; exact (ln_nA (k := 14) hq_68 (mem_old (mem_old hm_39)) (ln_nA (k := 14) hq_64 (mem_old hm_39) (ln_nA (k := 17) hq_61 hm_39 hn_41)))
  have hz_79 : ∀ j, aI S_71 q_23 j = 0 := by rw [eS_72]; exact (fun j9 => rd_nAI (k := 14) (n := 12800) hq_68 (mem_old (mem_old hm_39)) ((fun j9 => rd_nAI (k := 14) (n := 2000) hq_64 (mem_old hm_39) ((fun j9 => rd_nAI (k := 17) (n := 400) hq_61 hm_39 (hz_42 j9)) j9)) j9))
  have hm_80 : q_26 ∈ hL S_71 := by rw [eS_72]; exact (mem_old (mem_old (mem_old hm_43)))
  have hk_81 : Kd S_71 q_26 14 := by rw [eS_72]; exact (kd_nA (k := 14) (n := 12800) hq_68 (mem_old (mem_old hm_43)) (kd_nA (k := 14) (n := 2000) hq_64 (mem_old hm_43) (kd_nA (k := 17) (n := 400) hq_61 hm_43 hk_44)))
  have hn_82 : Ln S_71 q_26 119 := by rw [eS_72]; exact (ln_nA (k := 14) hq_68 (mem_old (mem_old hm_43)) (ln_nA (k := 14) hq_64 (mem_old hm_43) (ln_nA (k := 17) hq_61 hm_43 hn_45)))
  have hz_83 : ∀ j, aI S_71 q_26 j = 0 := by rw [eS_72]; exact (fun j9 => rd_nAI (k := 14) (n := 12800) hq_68 (mem_old (mem_old hm_43)) ((fun j9 => rd_nAI (k := 14) (n := 2000) hq_64 (mem_old hm_43) ((fun j9 => rd_nAI (k := 17) (n := 400) hq_61 hm_43 (hz_46 j9)) j9)) j9))
  have hm_84 : q_30 ∈ hL S_71 := by rw [eS_72]; exact (mem_old (mem_old (mem_old hm_47)))
  have hk_85 : Kd S_71 q_30 14 := by rw [eS_72]; exact (kd_nA (k := 14) (n := 12800) hq_68 (mem_old (mem_old hm_47)) (kd_nA (k := 14) (n := 2000) hq_64 (mem_old hm_47) (kd_nA (k := 17) (n := 400) hq_61 hm_47 hk_48)))
  have hn_86 : Ln S_71 q_30 4096 := by rw [eS_72]; exact (ln_nA (k := 14) hq_68 (mem_old (mem_old hm_47)) (ln_nA (k := 14) hq_64 (mem_old hm_47) (ln_nA (k := 17) hq_61 hm_47 hn_49)))
  have hz_87 : ∀ j, aI S_71 q_30 j = 0 := by rw [eS_72]; exact (fun j9 => rd_nAI (k := 14) (n := 12800) hq_68 (mem_old (mem_old hm_47)) ((fun j9 => rd_nAI (k := 14) (n := 2000) hq_64 (mem_old hm_47) ((fun j9 => rd_nAI (k := 17) (n := 400) hq_61 hm_47 (hz_50 j9)) j9)) j9))
  have hm_88 : q_8 ∈ hL S_71 := by rw [eS_72]; exact (mem_old (mem_old (mem_old hm_51)))
  have hk_89 : Kd S_71 q_8 17 := by rw [eS_72]; exact (kd_nA (k := 14) (n := 12800) hq_68 (mem_old (mem_old hm_51)) (kd_nA (k := 14) (n := 2000) hq_64 (mem_old hm_51) (kd_nA (k := 17) (n := 400) hq_61 hm_51 hk_52)))
  have hn_90 : Ln S_71 q_8 17 := by rw [eS_72]; exact (ln_nA (k := 14) hq_68 (mem_old (mem_old hm_51)) (ln_nA (k := 14) hq_64 (mem_old hm_51) (ln_nA (k := 17) hq_61 hm_51 hn_53)))
  have hz_91 : ∀ j, aI S_71 q_8 j = 0 := by rw [eS_72]; exact (fun j9 => rd_nAI (k := 14) (n := 12800) hq_68 (mem_old (mem_old hm_51)) ((fun j9 => rd_nAI (k := 14) (n := 2000) hq_64 (mem_old hm_51) ((fun j9 => rd_nAI (k := 17) (n := 400) hq_61 hm_51 (hz_54 j9)) j9)) j9))
  have hv_92 : hR S_71 1202 h = (some q_8) := by rw [eS_72]; exact (rd_sRf (S := (nA (sR (nA (sR (nA S_34 q_60 17 400) 1206 h (some q_60)) q_63 14 2000) 1207 h (some q_63)) q_67 14 12800)) (g := 1208) (a := h) (v := (some q_67)) (by decide) (rd_sRf (S := (nA (sR (nA S_34 q_60 17 400) 1206 h (some q_60)) q_63 14 2000)) (g := 1207) (a := h) (v := (some q_63)) (by decide) (rd_sRf (S := (nA S_34 q_60 17 400)) (g := 1206) (a := h) (v := (some q_60)) (by decide) hv_55)))
  have hv_93 : hR S_71 1203 h = (some q_23) := by rw [eS_72]; exact (rd_sRf (S := (nA (sR (nA (sR (nA S_34 q_60 17 400) 1206 h (some q_60)) q_63 14 2000) 1207 h (some q_63)) q_67 14 12800)) (g := 1208) (a := h) (v := (some q_67)) (by decide) (rd_sRf (S := (nA (sR (nA S_34 q_60 17 400) 1206 h (some q_60)) q_63 14 2000)) (g := 1207) (a := h) (v := (some q_63)) (by decide) (rd_sRf (S := (nA S_34 q_60 17 400)) (g := 1206) (a := h) (v := (some q_60)) (by decide) hv_56)))
  have hv_94 : hR S_71 1204 h = (some q_26) := by rw [eS_72]; exact (rd_sRf (S := (nA (sR (nA (sR (nA S_34 q_60 17 400) 1206 h (some q_60)) q_63 14 2000) 1207 h (some q_63)) q_67 14 12800)) (g := 1208) (a := h) (v := (some q_67)) (by decide) (rd_sRf (S := (nA (sR (nA S_34 q_60 17 400) 1206 h (some q_60)) q_63 14 2000)) (g := 1207) (a := h) (v := (some q_63)) (by decide) (rd_sRf (S := (nA S_34 q_60 17 400)) (g := 1206) (a := h) (v := (some q_60)) (by decide) hv_57)))
  have hv_95 : hR S_71 1205 h = (some q_30) := by rw [eS_72]; exact (rd_sRf (S := (nA (sR (nA (sR (nA S_34 q_60 17 400) 1206 h (some q_60)) q_63 14 2000) 1207 h (some q_63)) q_67 14 12800)) (g := 1208) (a := h) (v := (some q_67)) (by decide) (rd_sRf (S := (nA (sR (nA S_34 q_60 17 400) 1206 h (some q_60)) q_63 14 2000)) (g := 1207) (a := h) (v := (some q_63)) (by decide) (rd_sRf (S := (nA S_34 q_60 17 400)) (g := 1206) (a := h) (v := (some q_60)) (by decide) hv_58)))
  have hf_96 : Fm (fun f9 b9 => (f9 = 1244 ∧ b9 = h) ∨ (f9 = 1245 ∧ b9 = h)) (fun f9 b9 => b9 = h) (fun _ => False) S S_71 := by rw [eS_72]; exact hf_73
  refine j_newZ (N := 16) C ka_boolean (by decide) (by decide) (Nat.le_of_ble_eq_true rfl) (M.cells (by decide)) (M.slots (Nat.le_of_ble_eq_true rfl)) dX12_init_85 (fun q_97 hq_98 => ?_)
  have hz_99 : q_97 ∉ hL S := fun h9 => hq_98 (hf_96.mem h9)
  refine j_putrF (f := 1210) C hm9 flX12_38o (by decide) rfl rfl dX12_init_87 (mem_old hm_74) (kd_nA (k := 17) (n := 16) hq_98 hm_74 hk_75) rfl ?_
  refine j_aload_n C dX12_init_90 rfl 0 rfl ?_
  refine j_bipush (v := 16) C dX12_init_91 (by decide) ?_
  have hf_102 : Fm (fun f9 b9 => (f9 = 1244 ∧ b9 = h) ∨ (f9 = 1245 ∧ b9 = h)) (fun f9 b9 => b9 = h) (fun _ => False) S (sR (nA S_71 q_97 17 16) 1210 h (some q_97)) := ((hf_96.nA _ _ hq_98).sR _ (fun _ => rfl))
  refine j_newZ (N := 16) C ka_boolean (by decide) (by decide) (Nat.le_of_ble_eq_true rfl) (M.cells (by decide)) (M.slots (Nat.le_of_ble_eq_true rfl)) dX12_init_93 (fun q_100 hq_101 => ?_)
  have hz_103 : q_100 ∉ hL S := fun h9 => hq_101 (hf_102.mem h9)
  refine j_putrF (f := 1211) C hm9 flX12_41o (by decide) rfl rfl dX12_init_95 (mem_old (mem_old hm_74)) (kd_nA (k := 17) (n := 16) hq_101 (mem_old hm_74) (kd_nA (k := 17) (n := 16) hq_98 hm_74 hk_75)) rfl ?_
  refine j_aload_n C dX12_init_98 rfl 0 rfl ?_
  refine j_bipush (v := 16) C dX12_init_99 (by decide) ?_
  show J _ _ _ _ _ 101 _
  have hf_106 : Fm (fun f9 b9 => (f9 = 1244 ∧ b9 = h) ∨ (f9 = 1245 ∧ b9 = h)) (fun f9 b9 => b9 = h) (fun _ => False) S (sR (nA (sR (nA S_71 q_97 17 16) 1210 h (some q_97)) q_100 17 16) 1211 h (some q_100)) := ((hf_102.nA _ _ hq_101).sR _ (fun _ => rfl))
  refine j_newI (N := 16) C ka_int (by decide) (by decide) (Nat.le_of_ble_eq_true rfl) (M.cells (by decide)) (M.slots (Nat.le_of_ble_eq_true rfl)) dX12_init_101 (fun q_104 hq_105 => ?_)
  have hz_107 : q_104 ∉ hL S := fun h9 => hq_105 (hf_106.mem h9)
  refine j_putrF (f := 1212) C hm9 flX12_44o (by decide) rfl rfl dX12_init_103 (mem_old (mem_old (mem_old hm_74))) (kd_nA (k := 14) (n := 16) hq_105 (mem_old (mem_old hm_74)) (kd_nA (k := 17) (n := 16) hq_101 (mem_old hm_74) (kd_nA (k := 17) (n := 16) hq_98 hm_74 hk_75))) rfl ?_
  refine j_aload_n C dX12_init_106 rfl 0 rfl ?_
  refine j_bipush (v := 16) C dX12_init_107 (by decide) ?_
  have hf_110 : Fm (fun f9 b9 => (f9 = 1244 ∧ b9 = h) ∨ (f9 = 1245 ∧ b9 = h)) (fun f9 b9 => b9 = h) (fun _ => False) S (sR (nA (sR (nA (sR (nA S_71 q_97 17 16) 1210 h (some q_97)) q_100 17 16) 1211 h (some q_100)) q_104 14 16) 1212 h (some q_104)) := ((hf_106.nA _ _ hq_105).sR _ (fun _ => rfl))
  obtain ⟨S_108, eS_109⟩ : ∃ S9 : Hp, S9 = (sR (nA (sR (nA (sR (nA S_71 q_97 17 16) 1210 h (some q_97)) q_100 17 16) 1211 h (some q_100)) q_104 14 16) 1212 h (some q_104)) := ⟨_, rfl⟩
  refine J.eq (S' := S_108) eS_109.symm rfl rfl ?_
  have hm_111 : h ∈ hL S_108 := by rw [eS_109]; exact (mem_old (mem_old (mem_old hm_74)))
  have hk_112 : Kd S_108 h 12 := by rw [eS_109]; exact (kd_nA (k := 14) (n := 16) hq_105 (mem_old (mem_old hm_74)) (kd_nA (k := 17) (n := 16) hq_101 (mem_old hm_74) (kd_nA (k := 17) (n := 16) hq_98 hm_74 hk_75)))
  have hm_113 : q_100 ∈ hL S_108 := by rw [eS_109]; exact (mem_old mem_new)
  have hk_114 : Kd S_108 q_100 17 := by rw [eS_109]; exact (kd_nA (k := 14) (n := 16) hq_105 mem_new (kd_nA' (k := 17) (n := 16)))
  have hn_115 : Ln S_108 q_100 16 := by rw [eS_109]; exact (ln_nA (k := 14) hq_105 mem_new (ln_nA' (k := 17)))
  have hz_116 : ∀ j, aI S_108 q_100 j = 0 := by rw [eS_109]; exact (fun j9 => rd_nAI (k := 14) (n := 16) hq_105 mem_new ((fun j9 => rd_nAI' (k := 17) (n := 16)) j9))
  have hm_117 : q_23 ∈ hL S_108 := by rw [eS_109]; exact (mem_old (mem_old (mem_old hm_76)))
  have hk_118 : Kd S_108 q_23 17 := by rw [eS_109]; exact (kd_nA (k := 14) (n := 16) hq_105 (mem_old (mem_old hm_76)) (kd_nA (k := 17) (n := 16) hq_101 (mem_old hm_76) (kd_nA (k := 17) (n := 16) hq_98 hm_76 hk_77)))
  have hn_119 : Ln S_108 q_23 17 := by rw [eS_109]; exact (ln_nA (k := 14) hq_105 (mem_old (mem_old hm_76)) (ln_nA (k := 17) hq_101 (mem_old hm_76) (ln_nA (k := 17) hq_98 hm_76 hn_78)))
  have hz_120 : ∀ j, aI S_108 q_23 j = 0 := by rw [eS_109]; exact (fun j9 => rd_nAI (k := 14) (n := 16) hq_105 (mem_old (mem_old hm_76)) ((fun j9 => rd_nAI (k := 17) (n := 16) hq_101 (mem_old hm_76) ((fun j9 => rd_nAI (k := 17) (n := 16) hq_98 hm_76 (hz_79 j9)) j9)) j9))
  have hm_121 : q_26 ∈ hL S_108 := by rw [eS_109]; exact (mem_old (mem_old (mem_old hm_80)))
  have hk_122 : Kd S_108 q_26 14 := by rw [eS_109]; exact (kd_nA (k := 14) (n := 16) hq_105 (mem_old (mem_old hm_80)) (kd_nA (k := 17) (n := 16) hq_101 (mem_old hm_80) (kd_nA (k := 17) (n := 16) hq_98 hm_80 hk_81)))
  have hn_123 : Ln S_108 q_26 119 := by rw [eS_109]; exact (ln_nA (k := 14) hq_105 (mem_old (mem_old hm_80)) (ln_nA (k := 17) hq_101 (mem_old hm_80) (ln_nA (k := 17) hq_98 hm_80 hn_82)))
  have hz_124 : ∀ j, aI S_108 q_26 j = 0 := by rw [eS_109]; exact (fun j9 => rd_nAI (k := 14) (n := 16) hq_105 (mem_old (mem_old hm_80)) ((fun j9 => rd_nAI (k := 17) (n := 16) hq_101 (mem_old hm_80) ((fun j9 => rd_nAI (k := 17) (n := 16) hq_98 hm_80 (hz_83 j9)) j9)) j9))
  have hm_125 : q_30 ∈ hL S_108 := by rw [eS_109]; exact (mem_old (mem_old (mem_old hm_84)))
  have hk_126 : Kd S_108 q_30 14 := by rw [eS_109]; exact (kd_nA (k := 14) (n := 16) hq_105 (mem_old (mem_old hm_84)) (kd_nA (k := 17) (n := 16) hq_101 (mem_old hm_84) (kd_nA (k := 17) (n := 16) hq_98 hm_84 hk_85)))
  have hn_127 : Ln S_108 q_30 4096 := by rw [eS_109]; exact (ln_nA (k := 14) hq_105 (mem_old (mem_old hm_84)) (ln_nA (k := 17) hq_101 (mem_old hm_84) (ln_nA (k := 17) hq_98 hm_84 hn_86)))
  have hz_128 : ∀ j, aI S_108 q_30 j = 0 := by rw [eS_109]; exact (fun j9 => rd_nAI (k := 14) (n := 16) hq_105 (mem_old (mem_old hm_84)) ((fun j9 => rd_nAI (k := 17) (n := 16) hq_101 (mem_old hm_84) ((fun j9 => rd_nAI (k := 17) (n := 16) hq_98 hm_84 (hz_87 j9)) j9)) j9))
  have hm_129 : q_8 ∈ hL S_108 := by rw [eS_109]; exact (mem_old (mem_old (mem_old hm_88)))
  have hk_130 : Kd S_108 q_8 17 := by rw [eS_109]; exact (kd_nA (k := 14) (n := 16) hq_105 (mem_old (mem_old hm_88)) (kd_nA (k := 17) (n := 16) hq_101 (mem_old hm_88) (kd_nA (k := 17) (n := 16) hq_98 hm_88 hk_89)))
  have hn_131 : Ln S_108 q_8 17 := by rw [eS_109]; exact (ln_nA (k := 14) hq_105 (mem_old (mem_old hm_88)) (ln_nA (k := 17) hq_101 (mem_old hm_88) (ln_nA (k := 17) hq_98 hm_88 hn_90)))
  have hz_132 : ∀ j, aI S_108 q_8 j = 0 := by rw [eS_109]; exact (fun j9 => rd_nAI (k := 14) (n := 16) hq_105 (mem_old (mem_old hm_88)) ((fun j9 => rd_nAI (k := 17) (n := 16) hq_101 (mem_old hm_88) ((fun j9 => rd_nAI (k := 17) (n := 16) hq_98 hm_88 (hz_91 j9)) j9)) j9))
  have hm_133 : q_97 ∈ hL S_108 := by rw [eS_109]; exact (mem_old (mem_old mem_new))
  have hk_134 : Kd S_108 q_97 17 := by rw [eS_109]; exact (kd_nA (k := 14) (n := 16) hq_105 (mem_old mem_new) (kd_nA (k := 17) (n := 16) hq_101 mem_new (kd_nA' (k := 17) (n := 16))))
  have hn_135 : Ln S_108 q_97 16 := by rw [eS_109]; exact (ln_nA (k := 14) hq_105 (mem_old mem_new) (ln_nA (k := 17) hq_101 mem_new (ln_nA' (k := 17))))
  have hz_136 : ∀ j, aI S_108 q_97 j = 0 := by rw [eS_109]; exact (fun j9 => rd_nAI (k := 14) (n := 16) hq_105 (mem_old mem_new) ((fun j9 => rd_nAI (k := 17) (n := 16) hq_101 mem_new ((fun j9 => rd_nAI' (k := 17) (n := 16)) j9)) j9))
  have hv_137 : hR S_108 1202 h = (some q_8) := by rw [eS_109]; exact (rd_sRf (S := (nA (sR (nA (sR (nA S_71 q_97 17 16) 1210 h (some q_97)) q_100 17 16) 1211 h (some q_100)) q_104 14 16)) (g := 1212) (a := h) (v := (some q_104)) (by decide) (rd_sRf (S := (nA (sR (nA S_71 q_97 17 16) 1210 h (some q_97)) q_100 17 16)) (g := 1211) (a := h) (v := (some q_100)) (by decide) (rd_sRf (S := (nA S_71 q_97 17 16)) (g := 1210) (a := h) (v := (some q_97)) (by decide) hv_92)))
  have hv_138 : hR S_108 1203 h = (some q_23) := by rw [eS_109]; exact (rd_sRf (S := (nA (sR (nA (sR (nA S_71 q_97 17 16) 1210 h (some q_97)) q_100 17 16) 1211 h (some q_100)) q_104 14 16)) (g := 1212) (a := h) (v := (some q_104)) (by decide) (rd_sRf (S := (nA (sR (nA S_71 q_97 17 16) 1210 h (some q_97)) q_100 17 16)) (g := 1211) (a := h) (v := (some q_100)) (by decide) (rd_sRf (S := (nA S_71 q_97 17 16)) (g := 1210) (a := h) (v := (some q_97)) (by decide) hv_93)))
  have hv_139 : hR S_108 1204 h = (some q_26) := by rw [eS_109]; exact (rd_sRf (S := (nA (sR (nA (sR (nA S_71 q_97 17 16) 1210 h (some q_97)) q_100 17 16) 1211 h (some q_100)) q_104 14 16)) (g := 1212) (a := h) (v := (some q_104)) (by decide) (rd_sRf (S := (nA (sR (nA S_71 q_97 17 16) 1210 h (some q_97)) q_100 17 16)) (g := 1211) (a := h) (v := (some q_100)) (by decide) (rd_sRf (S := (nA S_71 q_97 17 16)) (g := 1210) (a := h) (v := (some q_97)) (by decide) hv_94)))
  have hv_140 : hR S_108 1205 h = (some q_30) := by rw [eS_109]; exact (rd_sRf (S := (nA (sR (nA (sR (nA S_71 q_97 17 16) 1210 h (some q_97)) q_100 17 16) 1211 h (some q_100)) q_104 14 16)) (g := 1212) (a := h) (v := (some q_104)) (by decide) (rd_sRf (S := (nA (sR (nA S_71 q_97 17 16) 1210 h (some q_97)) q_100 17 16)) (g := 1211) (a := h) (v := (some q_100)) (by decide) (rd_sRf (S := (nA S_71 q_97 17 16)) (g := 1210) (a := h) (v := (some q_97)) (by decide) hv_95)))
  have hv_141 : hR S_108 1210 h = (some q_97) := by rw [eS_109]; exact (rd_sRf (S := (nA (sR (nA (sR (nA S_71 q_97 17 16) 1210 h (some q_97)) q_100 17 16) 1211 h (some q_100)) q_104 14 16)) (g := 1212) (a := h) (v := (some q_104)) (by decide) (rd_sRf (S := (nA (sR (nA S_71 q_97 17 16) 1210 h (some q_97)) q_100 17 16)) (g := 1211) (a := h) (v := (some q_100)) (by decide) (rd_sR (S := (nA S_71 q_97 17 16)) (g := 1210) (a := h) (v := (some q_97)))))
  have hv_142 : hR S_108 1211 h = (some q_100) := by rw [eS_109]; exact (rd_sRf (S := (nA (sR (nA (sR (nA S_71 q_97 17 16) 1210 h (some q_97)) q_100 17 16) 1211 h (some q_100)) q_104 14 16)) (g := 1212) (a := h) (v := (some q_104)) (by decide) (rd_sR (S := (nA (sR (nA S_71 q_97 17 16) 1210 h (some q_97)) q_100 17 16)) (g := 1211) (a := h) (v := (some q_100))))
  have hf_143 : Fm (fun f9 b9 => (f9 = 1244 ∧ b9 = h) ∨ (f9 = 1245 ∧ b9 = h)) (fun f9 b9 => b9 = h) (fun _ => False) S S_108 := by rw [eS_109]; exact hf_110
  refine j_newI (N := 16) C ka_int (by decide) (by decide) (Nat.le_of_ble_eq_true rfl) (M.cells (by decide)) (M.slots (Nat.le_of_ble_eq_true rfl)) dX12_init_109 (fun q_144 hq_145 => ?_)
  have hz_146 : q_144 ∉ hL S := fun h9 => hq_145 (hf_143.mem h9)
  refine j_putrF (f := 1213) C hm9 flX12_47o (by decide) rfl rfl dX12_init_111 (mem_old hm_111) (kd_nA (k := 14) (n := 16) hq_145 hm_111 hk_112) rfl ?_
  refine j_aload_n C dX12_init_114 rfl 0 rfl ?_
  refine j_sipush (v := 256) C dX12_init_115 (by decide) ?_
  show J _ _ _ _ _ 118 _
  have hf_149 : Fm (fun f9 b9 => (f9 = 1244 ∧ b9 = h) ∨ (f9 = 1245 ∧ b9 = h)) (fun f9 b9 => b9 = h) (fun _ => False) S (sR (nA S_108 q_144 14 16) 1213 h (some q_144)) := ((hf_143.nA _ _ hq_145).sR _ (fun _ => rfl))
  refine j_newI (N := 256) C ka_int (by decide) (by decide) (Nat.le_of_ble_eq_true rfl) (M.cells (by decide)) (M.slots (Nat.le_of_ble_eq_true rfl)) dX12_init_118 (fun q_147 hq_148 => ?_)
  have hz_150 : q_147 ∉ hL S := fun h9 => hq_148 (hf_149.mem h9)
  refine j_putrF (f := 1214) C hm9 flX12_50o (by decide) rfl rfl dX12_init_120 (mem_old (mem_old hm_111)) (kd_nA (k := 14) (n := 256) hq_148 (mem_old hm_111) (kd_nA (k := 14) (n := 16) hq_145 hm_111 hk_112)) rfl ?_
  refine j_aload_n C dX12_init_123 rfl 0 rfl ?_
  refine j_bipush (v := 16) C dX12_init_124 (by decide) ?_
  have hf_153 : Fm (fun f9 b9 => (f9 = 1244 ∧ b9 = h) ∨ (f9 = 1245 ∧ b9 = h)) (fun f9 b9 => b9 = h) (fun _ => False) S (sR (nA (sR (nA S_108 q_144 14 16) 1213 h (some q_144)) q_147 14 256) 1214 h (some q_147)) := ((hf_149.nA _ _ hq_148).sR _ (fun _ => rfl))
  refine j_newZ (N := 16) C ka_boolean (by decide) (by decide) (Nat.le_of_ble_eq_true rfl) (M.cells (by decide)) (M.slots (Nat.le_of_ble_eq_true rfl)) dX12_init_126 (fun q_151 hq_152 => ?_)
  have hz_154 : q_151 ∉ hL S := fun h9 => hq_152 (hf_153.mem h9)
  refine j_putrF (f := 1215) C hm9 flX12_53o (by decide) rfl rfl dX12_init_128 (mem_old (mem_old (mem_old hm_111))) (kd_nA (k := 17) (n := 16) hq_152 (mem_old (mem_old hm_111)) (kd_nA (k := 14) (n := 256) hq_148 (mem_old hm_111) (kd_nA (k := 14) (n := 16) hq_145 hm_111 hk_112))) rfl ?_
  refine j_aload_n C dX12_init_131 rfl 0 rfl ?_
  refine j_bipush (v := 16) C dX12_init_132 (by decide) ?_
  show J _ _ _ _ _ 134 _
  have hf_157 : Fm (fun f9 b9 => (f9 = 1244 ∧ b9 = h) ∨ (f9 = 1245 ∧ b9 = h)) (fun f9 b9 => b9 = h) (fun _ => False) S (sR (nA (sR (nA (sR (nA S_108 q_144 14 16) 1213 h (some q_144)) q_147 14 256) 1214 h (some q_147)) q_151 17 16) 1215 h (some q_151)) := ((hf_153.nA _ _ hq_152).sR _ (fun _ => rfl))
  obtain ⟨S_155, eS_156⟩ : ∃ S9 : Hp, S9 = (sR (nA (sR (nA (sR (nA S_108 q_144 14 16) 1213 h (some q_144)) q_147 14 256) 1214 h (some q_147)) q_151 17 16) 1215 h (some q_151)) := ⟨_, rfl⟩
  refine J.eq (S' := S_155) eS_156.symm rfl rfl ?_
  have hm_158 : h ∈ hL S_155 := by rw [eS_156]; exact (mem_old (mem_old (mem_old hm_111)))
  have hk_159 : Kd S_155 h 12 := by rw [eS_156]; exact (kd_nA (k := 17) (n := 16) hq_152 (mem_old (mem_old hm_111)) (kd_nA (k := 14) (n := 256) hq_148 (mem_old hm_111) (kd_nA (k := 14) (n := 16) hq_145 hm_111 hk_112)))
  have hm_160 : q_100 ∈ hL S_155 := by rw [eS_156]; exact (mem_old (mem_old (mem_old hm_113)))
  have hk_161 : Kd S_155 q_100 17 := by rw [eS_156]; exact (kd_nA (k := 17) (n := 16) hq_152 (mem_old (mem_old hm_113)) (kd_nA (k := 14) (n := 256) hq_148 (mem_old hm_113) (kd_nA (k := 14) (n := 16) hq_145 hm_113 hk_114)))
  have hn_162 : Ln S_155 q_100 16 := by rw [eS_156]; exact (ln_nA (k := 17) hq_152 (mem_old (mem_old hm_113)) (ln_nA (k := 14) hq_148 (mem_old hm_113) (ln_nA (k := 14) hq_145 hm_113 hn_115)))
  have hz_163 : ∀ j, aI S_155 q_100 j = 0 := by rw [eS_156]; exact (fun j9 => rd_nAI (k := 17) (n := 16) hq_152 (mem_old (mem_old hm_113)) ((fun j9 => rd_nAI (k := 14) (n := 256) hq_148 (mem_old hm_113) ((fun j9 => rd_nAI (k := 14) (n := 16) hq_145 hm_113 (hz_116 j9)) j9)) j9))
  have hm_164 : q_151 ∈ hL S_155 := by rw [eS_156]; exact mem_new
  have hk_165 : Kd S_155 q_151 17 := by rw [eS_156]; exact (kd_nA' (k := 17) (n := 16))
  have hn_166 : Ln S_155 q_151 16 := by rw [eS_156]; exact (ln_nA' (k := 17))
  have hz_167 : ∀ j, aI S_155 q_151 j = 0 := by rw [eS_156]; exact (fun j9 => rd_nAI' (k := 17) (n := 16))
  have hm_168 : q_23 ∈ hL S_155 := by rw [eS_156]; exact (mem_old (mem_old (mem_old hm_117)))
  have hk_169 : Kd S_155 q_23 17 := by rw [eS_156]; exact (kd_nA (k := 17) (n := 16) hq_152 (mem_old (mem_old hm_117)) (kd_nA (k := 14) (n := 256) hq_148 (mem_old hm_117) (kd_nA (k := 14) (n := 16) hq_145 hm_117 hk_118)))
  have hn_170 : Ln S_155 q_23 17 := by rw [eS_156]; exact (ln_nA (k := 17) hq_152 (mem_old (mem_old hm_117)) (ln_nA (k := 14) hq_148 (mem_old hm_117) (ln_nA (k := 14) hq_145 hm_117 hn_119)))
  have hz_171 : ∀ j, aI S_155 q_23 j = 0 := by rw [eS_156]; exact (fun j9 => rd_nAI (k := 17) (n := 16) hq_152 (mem_old (mem_old hm_117)) ((fun j9 => rd_nAI (k := 14) (n := 256) hq_148 (mem_old hm_117) ((fun j9 => rd_nAI (k := 14) (n := 16) hq_145 hm_117 (hz_120 j9)) j9)) j9))
  have hm_172 : q_26 ∈ hL S_155 := by rw [eS_156]; exact (mem_old (mem_old (mem_old hm_121)))
  have hk_173 : Kd S_155 q_26 14 := by rw [eS_156]; exact (kd_nA (k := 17) (n := 16) hq_152 (mem_old (mem_old hm_121)) (kd_nA (k := 14) (n := 256) hq_148 (mem_old hm_121) (kd_nA (k := 14) (n := 16) hq_145 hm_121 hk_122)))
  have hn_174 : Ln S_155 q_26 119 := by rw [eS_156]; exact (ln_nA (k := 17) hq_152 (mem_old (mem_old hm_121)) (ln_nA (k := 14) hq_148 (mem_old hm_121) (ln_nA (k := 14) hq_145 hm_121 hn_123)))
  have hz_175 : ∀ j, aI S_155 q_26 j = 0 := by rw [eS_156]; exact (fun j9 => rd_nAI (k := 17) (n := 16) hq_152 (mem_old (mem_old hm_121)) ((fun j9 => rd_nAI (k := 14) (n := 256) hq_148 (mem_old hm_121) ((fun j9 => rd_nAI (k := 14) (n := 16) hq_145 hm_121 (hz_124 j9)) j9)) j9))
  have hm_176 : q_30 ∈ hL S_155 := by rw [eS_156]; exact (mem_old (mem_old (mem_old hm_125)))
  have hk_177 : Kd S_155 q_30 14 := by rw [eS_156]; exact (kd_nA (k := 17) (n := 16) hq_152 (mem_old (mem_old hm_125)) (kd_nA (k := 14) (n := 256) hq_148 (mem_old hm_125) (kd_nA (k := 14) (n := 16) hq_145 hm_125 hk_126)))
  have hn_178 : Ln S_155 q_30 4096 := by rw [eS_156]; exact (ln_nA (k := 17) hq_152 (mem_old (mem_old hm_125)) (ln_nA (k := 14) hq_148 (mem_old hm_125) (ln_nA (k := 14) hq_145 hm_125 hn_127)))
  have hz_179 : ∀ j, aI S_155 q_30 j = 0 := by rw [eS_156]; exact (fun j9 => rd_nAI (k := 17) (n := 16) hq_152 (mem_old (mem_old hm_125)) ((fun j9 => rd_nAI (k := 14) (n := 256) hq_148 (mem_old hm_125) ((fun j9 => rd_nAI (k := 14) (n := 16) hq_145 hm_125 (hz_128 j9)) j9)) j9))
  have hm_180 : q_8 ∈ hL S_155 := by rw [eS_156]; exact (mem_old (mem_old (mem_old hm_129)))
  have hk_181 : Kd S_155 q_8 17 := by rw [eS_156]; exact (kd_nA (k := 17) (n := 16) hq_152 (mem_old (mem_old hm_129)) (kd_nA (k := 14) (n := 256) hq_148 (mem_old hm_129) (kd_nA (k := 14) (n := 16) hq_145 hm_129 hk_130)))
  have hn_182 : Ln S_155 q_8 17 := by rw [eS_156]; exact (ln_nA (k := 17) hq_152 (mem_old (mem_old hm_129)) (ln_nA (k := 14) hq_148 (mem_old hm_129) (ln_nA (k := 14) hq_145 hm_129 hn_131)))
  have hz_183 : ∀ j, aI S_155 q_8 j = 0 := by rw [eS_156]; exact (fun j9 => rd_nAI (k := 17) (n := 16) hq_152 (mem_old (mem_old hm_129)) ((fun j9 => rd_nAI (k := 14) (n := 256) hq_148 (mem_old hm_129) ((fun j9 => rd_nAI (k := 14) (n := 16) hq_145 hm_129 (hz_132 j9)) j9)) j9))
  have hm_184 : q_97 ∈ hL S_155 := by rw [eS_156]; exact (mem_old (mem_old (mem_old hm_133)))
  have hk_185 : Kd S_155 q_97 17 := by rw [eS_156]; exact (kd_nA (k := 17) (n := 16) hq_152 (mem_old (mem_old hm_133)) (kd_nA (k := 14) (n := 256) hq_148 (mem_old hm_133) (kd_nA (k := 14) (n := 16) hq_145 hm_133 hk_134)))
  have hn_186 : Ln S_155 q_97 16 := by rw [eS_156]; exact (ln_nA (k := 17) hq_152 (mem_old (mem_old hm_133)) (ln_nA (k := 14) hq_148 (mem_old hm_133) (ln_nA (k := 14) hq_145 hm_133 hn_135)))
  have hz_187 : ∀ j, aI S_155 q_97 j = 0 := by rw [eS_156]; exact (fun j9 => rd_nAI (k := 17) (n := 16) hq_152 (mem_old (mem_old hm_133)) ((fun j9 => rd_nAI (k := 14) (n := 256) hq_148 (mem_old hm_133) ((fun j9 => rd_nAI (k := 14) (n := 16) hq_145 hm_133 (hz_136 j9)) j9)) j9))
  have hv_188 : hR S_155 1202 h = (some q_8) := by rw [eS_156]; exact (rd_sRf (S := (nA (sR (nA (sR (nA S_108 q_144 14 16) 1213 h (some q_144)) q_147 14 256) 1214 h (some q_147)) q_151 17 16)) (g := 1215) (a := h) (v := (some q_151)) (by decide) (rd_sRf (S := (nA (sR (nA S_108 q_144 14 16) 1213 h (some q_144)) q_147 14 256)) (g := 1214) (a := h) (v := (some q_147)) (by decide) (rd_sRf (S := (nA S_108 q_144 14 16)) (g := 1213) (a := h) (v := (some q_144)) (by decide) hv_137)))
  have hv_189 : hR S_155 1203 h = (some q_23) := by rw [eS_156]; exact (rd_sRf (S := (nA (sR (nA (sR (nA S_108 q_144 14 16) 1213 h (some q_144)) q_147 14 256) 1214 h (some q_147)) q_151 17 16)) (g := 1215) (a := h) (v := (some q_151)) (by decide) (rd_sRf (S := (nA (sR (nA S_108 q_144 14 16) 1213 h (some q_144)) q_147 14 256)) (g := 1214) (a := h) (v := (some q_147)) (by decide) (rd_sRf (S := (nA S_108 q_144 14 16)) (g := 1213) (a := h) (v := (some q_144)) (by decide) hv_138)))
  have hv_190 : hR S_155 1204 h = (some q_26) := by rw [eS_156]; exact (rd_sRf (S := (nA (sR (nA (sR (nA S_108 q_144 14 16) 1213 h (some q_144)) q_147 14 256) 1214 h (some q_147)) q_151 17 16)) (g := 1215) (a := h) (v := (some q_151)) (by decide) (rd_sRf (S := (nA (sR (nA S_108 q_144 14 16) 1213 h (some q_144)) q_147 14 256)) (g := 1214) (a := h) (v := (some q_147)) (by decide) (rd_sRf (S := (nA S_108 q_144 14 16)) (g := 1213) (a := h) (v := (some q_144)) (by decide) hv_139)))
  have hv_191 : hR S_155 1205 h = (some q_30) := by rw [eS_156]; exact (rd_sRf (S := (nA (sR (nA (sR (nA S_108 q_144 14 16) 1213 h (some q_144)) q_147 14 256) 1214 h (some q_147)) q_151 17 16)) (g := 1215) (a := h) (v := (some q_151)) (by decide) (rd_sRf (S := (nA (sR (nA S_108 q_144 14 16) 1213 h (some q_144)) q_147 14 256)) (g := 1214) (a := h) (v := (some q_147)) (by decide) (rd_sRf (S := (nA S_108 q_144 14 16)) (g := 1213) (a := h) (v := (some q_144)) (by decide) hv_140)))
  have hv_192 : hR S_155 1210 h = (some q_97) := by rw [eS_156]; exact (rd_sRf (S := (nA (sR (nA (sR (nA S_108 q_144 14 16) 1213 h (some q_144)) q_147 14 256) 1214 h (some q_147)) q_151 17 16)) (g := 1215) (a := h) (v := (some q_151)) (by decide) (rd_sRf (S := (nA (sR (nA S_108 q_144 14 16) 1213 h (some q_144)) q_147 14 256)) (g := 1214) (a := h) (v := (some q_147)) (by decide) (rd_sRf (S := (nA S_108 q_144 14 16)) (g := 1213) (a := h) (v := (some q_144)) (by decide) hv_141)))
  have hv_193 : hR S_155 1211 h = (some q_100) := by rw [eS_156]; exact (rd_sRf (S := (nA (sR (nA (sR (nA S_108 q_144 14 16) 1213 h (some q_144)) q_147 14 256) 1214 h (some q_147)) q_151 17 16)) (g := 1215) (a := h) (v := (some q_151)) (by decide) (rd_sRf (S := (nA (sR (nA S_108 q_144 14 16) 1213 h (some q_144)) q_147 14 256)) (g := 1214) (a := h) (v := (some q_147)) (by decide) (rd_sRf (S := (nA S_108 q_144 14 16)) (g := 1213) (a := h) (v := (some q_144)) (by decide) hv_142)))
  have hv_194 : hR S_155 1215 h = (some q_151) := by rw [eS_156]; exact (rd_sR (S := (nA (sR (nA (sR (nA S_108 q_144 14 16) 1213 h (some q_144)) q_147 14 256) 1214 h (some q_147)) q_151 17 16)) (g := 1215) (a := h) (v := (some q_151)))
  have hf_195 : Fm (fun f9 b9 => (f9 = 1244 ∧ b9 = h) ∨ (f9 = 1245 ∧ b9 = h)) (fun f9 b9 => b9 = h) (fun _ => False) S S_155 := by rw [eS_156]; exact hf_157
  refine j_newZ (N := 16) C ka_boolean (by decide) (by decide) (Nat.le_of_ble_eq_true rfl) (M.cells (by decide)) (M.slots (Nat.le_of_ble_eq_true rfl)) dX12_init_134 (fun q_196 hq_197 => ?_)
  have hz_198 : q_196 ∉ hL S := fun h9 => hq_197 (hf_195.mem h9)
  refine j_putrF (f := 1216) C hm9 flX12_56o (by decide) rfl rfl dX12_init_136 (mem_old hm_158) (kd_nA (k := 17) (n := 16) hq_197 hm_158 hk_159) rfl ?_
  refine j_aload_n C dX12_init_139 rfl 0 rfl ?_
  refine j_bipush (v := 16) C dX12_init_140 (by decide) ?_
  have hf_201 : Fm (fun f9 b9 => (f9 = 1244 ∧ b9 = h) ∨ (f9 = 1245 ∧ b9 = h)) (fun f9 b9 => b9 = h) (fun _ => False) S (sR (nA S_155 q_196 17 16) 1216 h (some q_196)) := ((hf_195.nA _ _ hq_197).sR _ (fun _ => rfl))
  refine j_newI (N := 16) C ka_int (by decide) (by decide) (Nat.le_of_ble_eq_true rfl) (M.cells (by decide)) (M.slots (Nat.le_of_ble_eq_true rfl)) dX12_init_142 (fun q_199 hq_200 => ?_)
  have hz_202 : q_199 ∉ hL S := fun h9 => hq_200 (hf_201.mem h9)
  refine j_putrF (f := 1217) C hm9 flX12_59o (by decide) rfl rfl dX12_init_144 (mem_old (mem_old hm_158)) (kd_nA (k := 14) (n := 16) hq_200 (mem_old hm_158) (kd_nA (k := 17) (n := 16) hq_197 hm_158 hk_159)) rfl ?_
  refine j_aload_n C dX12_init_147 rfl 0 rfl ?_
  refine j_sipush (v := 24000) C dX12_init_148 (by decide) ?_
  show J _ _ _ _ _ 151 _
  have hf_205 : Fm (fun f9 b9 => (f9 = 1244 ∧ b9 = h) ∨ (f9 = 1245 ∧ b9 = h)) (fun f9 b9 => b9 = h) (fun _ => False) S (sR (nA (sR (nA S_155 q_196 17 16) 1216 h (some q_196)) q_199 14 16) 1217 h (some q_199)) := ((hf_201.nA _ _ hq_200).sR _ (fun _ => rfl))
  refine j_newB (N := 24000) C ka_byte (by decide) (by decide) (Nat.le_of_ble_eq_true rfl) (M.cells (by decide)) (M.slots (Nat.le_of_ble_eq_true rfl)) dX12_init_151 (fun q_203 hq_204 => ?_)
  have hz_206 : q_203 ∉ hL S := fun h9 => hq_204 (hf_205.mem h9)
  refine j_putrF (f := 1218) C hm9 flX12_62o (by decide) rfl rfl dX12_init_153 (mem_old (mem_old (mem_old hm_158))) (kd_nA (k := 13) (n := 24000) hq_204 (mem_old (mem_old hm_158)) (kd_nA (k := 14) (n := 16) hq_200 (mem_old hm_158) (kd_nA (k := 17) (n := 16) hq_197 hm_158 hk_159))) rfl ?_
  refine j_aload_n C dX12_init_156 rfl 0 rfl ?_
  refine j_sipush (v := 12000) C dX12_init_157 (by decide) ?_
  have hf_209 : Fm (fun f9 b9 => (f9 = 1244 ∧ b9 = h) ∨ (f9 = 1245 ∧ b9 = h)) (fun f9 b9 => b9 = h) (fun _ => False) S (sR (nA (sR (nA (sR (nA S_155 q_196 17 16) 1216 h (some q_196)) q_199 14 16) 1217 h (some q_199)) q_203 13 24000) 1218 h (some q_203)) := ((hf_205.nA _ _ hq_204).sR _ (fun _ => rfl))
  obtain ⟨S_207, eS_208⟩ : ∃ S9 : Hp, S9 = (sR (nA (sR (nA (sR (nA S_155 q_196 17 16) 1216 h (some q_196)) q_199 14 16) 1217 h (some q_199)) q_203 13 24000) 1218 h (some q_203)) := ⟨_, rfl⟩
  refine J.eq (S' := S_207) eS_208.symm rfl rfl ?_
  have hm_210 : h ∈ hL S_207 := by rw [eS_208]; exact (mem_old (mem_old (mem_old hm_158)))
  have hk_211 : Kd S_207 h 12 := by rw [eS_208]; exact (kd_nA (k := 13) (n := 24000) hq_204 (mem_old (mem_old hm_158)) (kd_nA (k := 14) (n := 16) hq_200 (mem_old hm_158) (kd_nA (k := 17) (n := 16) hq_197 hm_158 hk_159)))
  have hm_212 : q_100 ∈ hL S_207 := by rw [eS_208]; exact (mem_old (mem_old (mem_old hm_160)))
  have hk_213 : Kd S_207 q_100 17 := by rw [eS_208]; exact (kd_nA (k := 13) (n := 24000) hq_204 (mem_old (mem_old hm_160)) (kd_nA (k := 14) (n := 16) hq_200 (mem_old hm_160) (kd_nA (k := 17) (n := 16) hq_197 hm_160 hk_161)))
  have hn_214 : Ln S_207 q_100 16 := by rw [eS_208]; exact (ln_nA (k := 13) hq_204 (mem_old (mem_old hm_160)) (ln_nA (k := 14) hq_200 (mem_old hm_160) (ln_nA (k := 17) hq_197 hm_160 hn_162)))
  have hz_215 : ∀ j, aI S_207 q_100 j = 0 := by rw [eS_208]; exact (fun j9 => rd_nAI (k := 13) (n := 24000) hq_204 (mem_old (mem_old hm_160)) ((fun j9 => rd_nAI (k := 14) (n := 16) hq_200 (mem_old hm_160) ((fun j9 => rd_nAI (k := 17) (n := 16) hq_197 hm_160 (hz_163 j9)) j9)) j9))
  have hm_216 : q_151 ∈ hL S_207 := by rw [eS_208]; exact (mem_old (mem_old (mem_old hm_164)))
  have hk_217 : Kd S_207 q_151 17 := by rw [eS_208]; exact (kd_nA (k := 13) (n := 24000) hq_204 (mem_old (mem_old hm_164)) (kd_nA (k := 14) (n := 16) hq_200 (mem_old hm_164) (kd_nA (k := 17) (n := 16) hq_197 hm_164 hk_165)))
  have hn_218 : Ln S_207 q_151 16 := by rw [eS_208]; exact (ln_nA (k := 13) hq_204 (mem_old (mem_old hm_164)) (ln_nA (k := 14) hq_200 (mem_old hm_164) (ln_nA (k := 17) hq_197 hm_164 hn_166)))
  have hz_219 : ∀ j, aI S_207 q_151 j = 0 := by rw [eS_208]; exact (fun j9 => rd_nAI (k := 13) (n := 24000) hq_204 (mem_old (mem_old hm_164)) ((fun j9 => rd_nAI (k := 14) (n := 16) hq_200 (mem_old hm_164) ((fun j9 => rd_nAI (k := 17) (n := 16) hq_197 hm_164 (hz_167 j9)) j9)) j9))
  have hm_220 : q_196 ∈ hL S_207 := by rw [eS_208]; exact (mem_old (mem_old mem_new))
  have hk_221 : Kd S_207 q_196 17 := by rw [eS_208]; exact (kd_nA (k := 13) (n := 24000) hq_204 (mem_old mem_new) (kd_nA (k := 14) (n := 16) hq_200 mem_new (kd_nA' (k := 17) (n := 16))))
  have hn_222 : Ln S_207 q_196 16 := by rw [eS_208]; exact (ln_nA (k := 13) hq_204 (mem_old mem_new) (ln_nA (k := 14) hq_200 mem_new (ln_nA' (k := 17))))
  have hz_223 : ∀ j, aI S_207 q_196 j = 0 := by rw [eS_208]; exact (fun j9 => rd_nAI (k := 13) (n := 24000) hq_204 (mem_old mem_new) ((fun j9 => rd_nAI (k := 14) (n := 16) hq_200 mem_new ((fun j9 => rd_nAI' (k := 17) (n := 16)) j9)) j9))
  have hm_224 : q_199 ∈ hL S_207 := by rw [eS_208]; exact (mem_old mem_new)
  have hk_225 : Kd S_207 q_199 14 := by rw [eS_208]; exact (kd_nA (k := 13) (n := 24000) hq_204 mem_new (kd_nA' (k := 14) (n := 16)))
  have hn_226 : Ln S_207 q_199 16 := by rw [eS_208]; exact (ln_nA (k := 13) hq_204 mem_new (ln_nA' (k := 14)))
  have hz_227 : ∀ j, aI S_207 q_199 j = 0 := by rw [eS_208]; exact (fun j9 => rd_nAI (k := 13) (n := 24000) hq_204 mem_new ((fun j9 => rd_nAI' (k := 14) (n := 16)) j9))
  have hm_228 : q_23 ∈ hL S_207 := by rw [eS_208]; exact (mem_old (mem_old (mem_old hm_168)))
  have hk_229 : Kd S_207 q_23 17 := by rw [eS_208]; exact (kd_nA (k := 13) (n := 24000) hq_204 (mem_old (mem_old hm_168)) (kd_nA (k := 14) (n := 16) hq_200 (mem_old hm_168) (kd_nA (k := 17) (n := 16) hq_197 hm_168 hk_169)))
  have hn_230 : Ln S_207 q_23 17 := by rw [eS_208]; exact (ln_nA (k := 13) hq_204 (mem_old (mem_old hm_168)) (ln_nA (k := 14) hq_200 (mem_old hm_168) (ln_nA (k := 17) hq_197 hm_168 hn_170)))
  have hz_231 : ∀ j, aI S_207 q_23 j = 0 := by rw [eS_208]; exact (fun j9 => rd_nAI (k := 13) (n := 24000) hq_204 (mem_old (mem_old hm_168)) ((fun j9 => rd_nAI (k := 14) (n := 16) hq_200 (mem_old hm_168) ((fun j9 => rd_nAI (k := 17) (n := 16) hq_197 hm_168 (hz_171 j9)) j9)) j9))
  have hm_232 : q_26 ∈ hL S_207 := by rw [eS_208]; exact (mem_old (mem_old (mem_old hm_172)))
  have hk_233 : Kd S_207 q_26 14 := by rw [eS_208]; exact (kd_nA (k := 13) (n := 24000) hq_204 (mem_old (mem_old hm_172)) (kd_nA (k := 14) (n := 16) hq_200 (mem_old hm_172) (kd_nA (k := 17) (n := 16) hq_197 hm_172 hk_173)))
  have hn_234 : Ln S_207 q_26 119 := by rw [eS_208]; exact (ln_nA (k := 13) hq_204 (mem_old (mem_old hm_172)) (ln_nA (k := 14) hq_200 (mem_old hm_172) (ln_nA (k := 17) hq_197 hm_172 hn_174)))
  have hz_235 : ∀ j, aI S_207 q_26 j = 0 := by rw [eS_208]; exact (fun j9 => rd_nAI (k := 13) (n := 24000) hq_204 (mem_old (mem_old hm_172)) ((fun j9 => rd_nAI (k := 14) (n := 16) hq_200 (mem_old hm_172) ((fun j9 => rd_nAI (k := 17) (n := 16) hq_197 hm_172 (hz_175 j9)) j9)) j9))
  have hm_236 : q_30 ∈ hL S_207 := by rw [eS_208]; exact (mem_old (mem_old (mem_old hm_176)))
  have hk_237 : Kd S_207 q_30 14 := by rw [eS_208]; exact (kd_nA (k := 13) (n := 24000) hq_204 (mem_old (mem_old hm_176)) (kd_nA (k := 14) (n := 16) hq_200 (mem_old hm_176) (kd_nA (k := 17) (n := 16) hq_197 hm_176 hk_177)))
  have hn_238 : Ln S_207 q_30 4096 := by rw [eS_208]; exact (ln_nA (k := 13) hq_204 (mem_old (mem_old hm_176)) (ln_nA (k := 14) hq_200 (mem_old hm_176) (ln_nA (k := 17) hq_197 hm_176 hn_178)))
  have hz_239 : ∀ j, aI S_207 q_30 j = 0 := by rw [eS_208]; exact (fun j9 => rd_nAI (k := 13) (n := 24000) hq_204 (mem_old (mem_old hm_176)) ((fun j9 => rd_nAI (k := 14) (n := 16) hq_200 (mem_old hm_176) ((fun j9 => rd_nAI (k := 17) (n := 16) hq_197 hm_176 (hz_179 j9)) j9)) j9))
  have hm_240 : q_8 ∈ hL S_207 := by rw [eS_208]; exact (mem_old (mem_old (mem_old hm_180)))
  have hk_241 : Kd S_207 q_8 17 := by rw [eS_208]; exact (kd_nA (k := 13) (n := 24000) hq_204 (mem_old (mem_old hm_180)) (kd_nA (k := 14) (n := 16) hq_200 (mem_old hm_180) (kd_nA (k := 17) (n := 16) hq_197 hm_180 hk_181)))
  have hn_242 : Ln S_207 q_8 17 := by rw [eS_208]; exact (ln_nA (k := 13) hq_204 (mem_old (mem_old hm_180)) (ln_nA (k := 14) hq_200 (mem_old hm_180) (ln_nA (k := 17) hq_197 hm_180 hn_182)))
  have hz_243 : ∀ j, aI S_207 q_8 j = 0 := by rw [eS_208]; exact (fun j9 => rd_nAI (k := 13) (n := 24000) hq_204 (mem_old (mem_old hm_180)) ((fun j9 => rd_nAI (k := 14) (n := 16) hq_200 (mem_old hm_180) ((fun j9 => rd_nAI (k := 17) (n := 16) hq_197 hm_180 (hz_183 j9)) j9)) j9))
  have hm_244 : q_97 ∈ hL S_207 := by rw [eS_208]; exact (mem_old (mem_old (mem_old hm_184)))
  have hk_245 : Kd S_207 q_97 17 := by rw [eS_208]; exact (kd_nA (k := 13) (n := 24000) hq_204 (mem_old (mem_old hm_184)) (kd_nA (k := 14) (n := 16) hq_200 (mem_old hm_184) (kd_nA (k := 17) (n := 16) hq_197 hm_184 hk_185)))
  have hn_246 : Ln S_207 q_97 16 := by rw [eS_208]; exact (ln_nA (k := 13) hq_204 (mem_old (mem_old hm_184)) (ln_nA (k := 14) hq_200 (mem_old hm_184) (ln_nA (k := 17) hq_197 hm_184 hn_186)))
  have hz_247 : ∀ j, aI S_207 q_97 j = 0 := by rw [eS_208]; exact (fun j9 => rd_nAI (k := 13) (n := 24000) hq_204 (mem_old (mem_old hm_184)) ((fun j9 => rd_nAI (k := 14) (n := 16) hq_200 (mem_old hm_184) ((fun j9 => rd_nAI (k := 17) (n := 16) hq_197 hm_184 (hz_187 j9)) j9)) j9))
  have hv_248 : hR S_207 1202 h = (some q_8) := by rw [eS_208]; exact (rd_sRf (S := (nA (sR (nA (sR (nA S_155 q_196 17 16) 1216 h (some q_196)) q_199 14 16) 1217 h (some q_199)) q_203 13 24000)) (g := 1218) (a := h) (v := (some q_203)) (by decide) (rd_sRf (S := (nA (sR (nA S_155 q_196 17 16) 1216 h (some q_196)) q_199 14 16)) (g := 1217) (a := h) (v := (some q_199)) (by decide) (rd_sRf (S := (nA S_155 q_196 17 16)) (g := 1216) (a := h) (v := (some q_196)) (by decide) hv_188)))
  have hv_249 : hR S_207 1203 h = (some q_23) := by rw [eS_208]; exact (rd_sRf (S := (nA (sR (nA (sR (nA S_155 q_196 17 16) 1216 h (some q_196)) q_199 14 16) 1217 h (some q_199)) q_203 13 24000)) (g := 1218) (a := h) (v := (some q_203)) (by decide) (rd_sRf (S := (nA (sR (nA S_155 q_196 17 16) 1216 h (some q_196)) q_199 14 16)) (g := 1217) (a := h) (v := (some q_199)) (by decide) (rd_sRf (S := (nA S_155 q_196 17 16)) (g := 1216) (a := h) (v := (some q_196)) (by decide) hv_189)))
  have hv_250 : hR S_207 1204 h = (some q_26) := by rw [eS_208]; exact (rd_sRf (S := (nA (sR (nA (sR (nA S_155 q_196 17 16) 1216 h (some q_196)) q_199 14 16) 1217 h (some q_199)) q_203 13 24000)) (g := 1218) (a := h) (v := (some q_203)) (by decide) (rd_sRf (S := (nA (sR (nA S_155 q_196 17 16) 1216 h (some q_196)) q_199 14 16)) (g := 1217) (a := h) (v := (some q_199)) (by decide) (rd_sRf (S := (nA S_155 q_196 17 16)) (g := 1216) (a := h) (v := (some q_196)) (by decide) hv_190)))
  have hv_251 : hR S_207 1205 h = (some q_30) := by rw [eS_208]; exact (rd_sRf (S := (nA (sR (nA (sR (nA S_155 q_196 17 16) 1216 h (some q_196)) q_199 14 16) 1217 h (some q_199)) q_203 13 24000)) (g := 1218) (a := h) (v := (some q_203)) (by decide) (rd_sRf (S := (nA (sR (nA S_155 q_196 17 16) 1216 h (some q_196)) q_199 14 16)) (g := 1217) (a := h) (v := (some q_199)) (by decide) (rd_sRf (S := (nA S_155 q_196 17 16)) (g := 1216) (a := h) (v := (some q_196)) (by decide) hv_191)))
  have hv_252 : hR S_207 1210 h = (some q_97) := by rw [eS_208]; exact (rd_sRf (S := (nA (sR (nA (sR (nA S_155 q_196 17 16) 1216 h (some q_196)) q_199 14 16) 1217 h (some q_199)) q_203 13 24000)) (g := 1218) (a := h) (v := (some q_203)) (by decide) (rd_sRf (S := (nA (sR (nA S_155 q_196 17 16) 1216 h (some q_196)) q_199 14 16)) (g := 1217) (a := h) (v := (some q_199)) (by decide) (rd_sRf (S := (nA S_155 q_196 17 16)) (g := 1216) (a := h) (v := (some q_196)) (by decide) hv_192)))
  have hv_253 : hR S_207 1211 h = (some q_100) := by rw [eS_208]; exact (rd_sRf (S := (nA (sR (nA (sR (nA S_155 q_196 17 16) 1216 h (some q_196)) q_199 14 16) 1217 h (some q_199)) q_203 13 24000)) (g := 1218) (a := h) (v := (some q_203)) (by decide) (rd_sRf (S := (nA (sR (nA S_155 q_196 17 16) 1216 h (some q_196)) q_199 14 16)) (g := 1217) (a := h) (v := (some q_199)) (by decide) (rd_sRf (S := (nA S_155 q_196 17 16)) (g := 1216) (a := h) (v := (some q_196)) (by decide) hv_193)))
  have hv_254 : hR S_207 1215 h = (some q_151) := by rw [eS_208]; exact (rd_sRf (S := (nA (sR (nA (sR (nA S_155 q_196 17 16) 1216 h (some q_196)) q_199 14 16) 1217 h (some q_199)) q_203 13 24000)) (g := 1218) (a := h) (v := (some q_203)) (by decide) (rd_sRf (S := (nA (sR (nA S_155 q_196 17 16) 1216 h (some q_196)) q_199 14 16)) (g := 1217) (a := h) (v := (some q_199)) (by decide) (rd_sRf (S := (nA S_155 q_196 17 16)) (g := 1216) (a := h) (v := (some q_196)) (by decide) hv_194)))
  have hv_255 : hR S_207 1216 h = (some q_196) := by rw [eS_208]; exact (rd_sRf (S := (nA (sR (nA (sR (nA S_155 q_196 17 16) 1216 h (some q_196)) q_199 14 16) 1217 h (some q_199)) q_203 13 24000)) (g := 1218) (a := h) (v := (some q_203)) (by decide) (rd_sRf (S := (nA (sR (nA S_155 q_196 17 16) 1216 h (some q_196)) q_199 14 16)) (g := 1217) (a := h) (v := (some q_199)) (by decide) (rd_sR (S := (nA S_155 q_196 17 16)) (g := 1216) (a := h) (v := (some q_196)))))
  have hv_256 : hR S_207 1217 h = (some q_199) := by rw [eS_208]; exact (rd_sRf (S := (nA (sR (nA (sR (nA S_155 q_196 17 16) 1216 h (some q_196)) q_199 14 16) 1217 h (some q_199)) q_203 13 24000)) (g := 1218) (a := h) (v := (some q_203)) (by decide) (rd_sR (S := (nA (sR (nA S_155 q_196 17 16) 1216 h (some q_196)) q_199 14 16)) (g := 1217) (a := h) (v := (some q_199))))
  have hf_257 : Fm (fun f9 b9 => (f9 = 1244 ∧ b9 = h) ∨ (f9 = 1245 ∧ b9 = h)) (fun f9 b9 => b9 = h) (fun _ => False) S S_207 := by rw [eS_208]; exact hf_209
  refine j_newB (N := 12000) C ka_byte (by decide) (by decide) (Nat.le_of_ble_eq_true rfl) (M.cells (by decide)) (M.slots (Nat.le_of_ble_eq_true rfl)) dX12_init_160 (fun q_258 hq_259 => ?_)
  have hz_260 : q_258 ∉ hL S := fun h9 => hq_259 (hf_257.mem h9)
  refine j_putrF (f := 1219) C hm9 flX12_66o (by decide) rfl rfl dX12_init_162 (mem_old hm_210) (kd_nA (k := 13) (n := 12000) hq_259 hm_210 hk_211) rfl ?_
  refine j_aload_n C dX12_init_165 rfl 0 rfl ?_
  refine j_bipush (v := 7) C dX12_init_166 (by decide) ?_
  show J _ _ _ _ _ 168 _
  have hf_263 : Fm (fun f9 b9 => (f9 = 1244 ∧ b9 = h) ∨ (f9 = 1245 ∧ b9 = h)) (fun f9 b9 => b9 = h) (fun _ => False) S (sR (nA S_207 q_258 13 12000) 1219 h (some q_258)) := ((hf_257.nA _ _ hq_259).sR _ (fun _ => rfl))
  refine j_newI (N := 7) C ka_int (by decide) (by decide) (Nat.le_of_ble_eq_true rfl) (M.cells (by decide)) (M.slots (Nat.le_of_ble_eq_true rfl)) dX12_init_168 (fun q_261 hq_262 => ?_)
  have hz_264 : q_261 ∉ hL S := fun h9 => hq_262 (hf_263.mem h9)
  refine j_putrF (f := 1220) C hm9 flX12_69o (by decide) rfl rfl dX12_init_170 (mem_old (mem_old hm_210)) (kd_nA (k := 14) (n := 7) hq_262 (mem_old hm_210) (kd_nA (k := 13) (n := 12000) hq_259 hm_210 hk_211)) rfl ?_
  refine j_aload_n C dX12_init_173 rfl 0 rfl ?_
  refine j_bipush (v := 6) C dX12_init_174 (by decide) ?_
  have hf_267 : Fm (fun f9 b9 => (f9 = 1244 ∧ b9 = h) ∨ (f9 = 1245 ∧ b9 = h)) (fun f9 b9 => b9 = h) (fun _ => False) S (sR (nA (sR (nA S_207 q_258 13 12000) 1219 h (some q_258)) q_261 14 7) 1220 h (some q_261)) := ((hf_263.nA _ _ hq_262).sR _ (fun _ => rfl))
  refine j_newI (N := 6) C ka_int (by decide) (by decide) (Nat.le_of_ble_eq_true rfl) (M.cells (by decide)) (M.slots (Nat.le_of_ble_eq_true rfl)) dX12_init_176 (fun q_265 hq_266 => ?_)
  have hz_268 : q_265 ∉ hL S := fun h9 => hq_266 (hf_267.mem h9)
  refine j_putrF (f := 1221) C hm9 flX12_72o (by decide) rfl rfl dX12_init_178 (mem_old (mem_old (mem_old hm_210))) (kd_nA (k := 14) (n := 6) hq_266 (mem_old (mem_old hm_210)) (kd_nA (k := 14) (n := 7) hq_262 (mem_old hm_210) (kd_nA (k := 13) (n := 12000) hq_259 hm_210 hk_211))) rfl ?_
  refine j_aload_n C dX12_init_181 rfl 0 rfl ?_
  refine j_sipush (v := 8000) C dX12_init_182 (by decide) ?_
  show J _ _ _ _ _ 185 _
  have hf_271 : Fm (fun f9 b9 => (f9 = 1244 ∧ b9 = h) ∨ (f9 = 1245 ∧ b9 = h)) (fun f9 b9 => b9 = h) (fun _ => False) S (sR (nA (sR (nA (sR (nA S_207 q_258 13 12000) 1219 h (some q_258)) q_261 14 7) 1220 h (some q_261)) q_265 14 6) 1221 h (some q_265)) := ((hf_267.nA _ _ hq_266).sR _ (fun _ => rfl))
  obtain ⟨S_269, eS_270⟩ : ∃ S9 : Hp, S9 = (sR (nA (sR (nA (sR (nA S_207 q_258 13 12000) 1219 h (some q_258)) q_261 14 7) 1220 h (some q_261)) q_265 14 6) 1221 h (some q_265)) := ⟨_, rfl⟩
  refine J.eq (S' := S_269) eS_270.symm rfl rfl ?_
  have hm_272 : h ∈ hL S_269 := by rw [eS_270]; exact (mem_old (mem_old (mem_old hm_210)))
  have hk_273 : Kd S_269 h 12 := by rw [eS_270]; exact (kd_nA (k := 14) (n := 6) hq_266 (mem_old (mem_old hm_210)) (kd_nA (k := 14) (n := 7) hq_262 (mem_old hm_210) (kd_nA (k := 13) (n := 12000) hq_259 hm_210 hk_211)))
  have hm_274 : q_100 ∈ hL S_269 := by rw [eS_270]; exact (mem_old (mem_old (mem_old hm_212)))
  have hk_275 : Kd S_269 q_100 17 := by rw [eS_270]; exact (kd_nA (k := 14) (n := 6) hq_266 (mem_old (mem_old hm_212)) (kd_nA (k := 14) (n := 7) hq_262 (mem_old hm_212) (kd_nA (k := 13) (n := 12000) hq_259 hm_212 hk_213)))
  have hn_276 : Ln S_269 q_100 16 := by rw [eS_270]; exact (ln_nA (k := 14) hq_266 (mem_old (mem_old hm_212)) (ln_nA (k := 14) hq_262 (mem_old hm_212) (ln_nA (k := 13) hq_259 hm_212 hn_214)))
  have hz_277 : ∀ j, aI S_269 q_100 j = 0 := by rw [eS_270]; exact (fun j9 => rd_nAI (k := 14) (n := 6) hq_266 (mem_old (mem_old hm_212)) ((fun j9 => rd_nAI (k := 14) (n := 7) hq_262 (mem_old hm_212) ((fun j9 => rd_nAI (k := 13) (n := 12000) hq_259 hm_212 (hz_215 j9)) j9)) j9))
  have hm_278 : q_151 ∈ hL S_269 := by rw [eS_270]; exact (mem_old (mem_old (mem_old hm_216)))
  have hk_279 : Kd S_269 q_151 17 := by rw [eS_270]; exact (kd_nA (k := 14) (n := 6) hq_266 (mem_old (mem_old hm_216)) (kd_nA (k := 14) (n := 7) hq_262 (mem_old hm_216) (kd_nA (k := 13) (n := 12000) hq_259 hm_216 hk_217)))
  have hn_280 : Ln S_269 q_151 16 := by rw [eS_270]; exact (ln_nA (k := 14) hq_266 (mem_old (mem_old hm_216)) (ln_nA (k := 14) hq_262 (mem_old hm_216) (ln_nA (k := 13) hq_259 hm_216 hn_218)))
  have hz_281 : ∀ j, aI S_269 q_151 j = 0 := by rw [eS_270]; exact (fun j9 => rd_nAI (k := 14) (n := 6) hq_266 (mem_old (mem_old hm_216)) ((fun j9 => rd_nAI (k := 14) (n := 7) hq_262 (mem_old hm_216) ((fun j9 => rd_nAI (k := 13) (n := 12000) hq_259 hm_216 (hz_219 j9)) j9)) j9))
  have hm_282 : q_196 ∈ hL S_269 := by rw [eS_270]; exact (mem_old (mem_old (mem_old hm_220)))
  have hk_283 : Kd S_269 q_196 17 := by rw [eS_270]; exact (kd_nA (k := 14) (n := 6) hq_266 (mem_old (mem_old hm_220)) (kd_nA (k := 14) (n := 7) hq_262 (mem_old hm_220) (kd_nA (k := 13) (n := 12000) hq_259 hm_220 hk_221)))
  have hn_284 : Ln S_269 q_196 16 := by rw [eS_270]; exact (ln_nA (k := 14) hq_266 (mem_old (mem_old hm_220)) (ln_nA (k := 14) hq_262 (mem_old hm_220) (ln_nA (k := 13) hq_259 hm_220 hn_222)))
  have hz_285 : ∀ j, aI S_269 q_196 j = 0 := by rw [eS_270]; exact (fun j9 => rd_nAI (k := 14) (n := 6) hq_266 (mem_old (mem_old hm_220)) ((fun j9 => rd_nAI (k := 14) (n := 7) hq_262 (mem_old hm_220) ((fun j9 => rd_nAI (k := 13) (n := 12000) hq_259 hm_220 (hz_223 j9)) j9)) j9))
  have hm_286 : q_199 ∈ hL S_269 := by rw [eS_270]; exact (mem_old (mem_old (mem_old hm_224)))
  have hk_287 : Kd S_269 q_199 14 := by rw [eS_270]; exact (kd_nA (k := 14) (n := 6) hq_266 (mem_old (mem_old hm_224)) (kd_nA (k := 14) (n := 7) hq_262 (mem_old hm_224) (kd_nA (k := 13) (n := 12000) hq_259 hm_224 hk_225)))
  have hn_288 : Ln S_269 q_199 16 := by rw [eS_270]; exact (ln_nA (k := 14) hq_266 (mem_old (mem_old hm_224)) (ln_nA (k := 14) hq_262 (mem_old hm_224) (ln_nA (k := 13) hq_259 hm_224 hn_226)))
  have hz_289 : ∀ j, aI S_269 q_199 j = 0 := by rw [eS_270]; exact (fun j9 => rd_nAI (k := 14) (n := 6) hq_266 (mem_old (mem_old hm_224)) ((fun j9 => rd_nAI (k := 14) (n := 7) hq_262 (mem_old hm_224) ((fun j9 => rd_nAI (k := 13) (n := 12000) hq_259 hm_224 (hz_227 j9)) j9)) j9))
  have hm_290 : q_23 ∈ hL S_269 := by rw [eS_270]; exact (mem_old (mem_old (mem_old hm_228)))
  have hk_291 : Kd S_269 q_23 17 := by rw [eS_270]; exact (kd_nA (k := 14) (n := 6) hq_266 (mem_old (mem_old hm_228)) (kd_nA (k := 14) (n := 7) hq_262 (mem_old hm_228) (kd_nA (k := 13) (n := 12000) hq_259 hm_228 hk_229)))
  have hn_292 : Ln S_269 q_23 17 := by rw [eS_270]; exact (ln_nA (k := 14) hq_266 (mem_old (mem_old hm_228)) (ln_nA (k := 14) hq_262 (mem_old hm_228) (ln_nA (k := 13) hq_259 hm_228 hn_230)))
  have hz_293 : ∀ j, aI S_269 q_23 j = 0 := by rw [eS_270]; exact (fun j9 => rd_nAI (k := 14) (n := 6) hq_266 (mem_old (mem_old hm_228)) ((fun j9 => rd_nAI (k := 14) (n := 7) hq_262 (mem_old hm_228) ((fun j9 => rd_nAI (k := 13) (n := 12000) hq_259 hm_228 (hz_231 j9)) j9)) j9))
  have hm_294 : q_258 ∈ hL S_269 := by rw [eS_270]; exact (mem_old (mem_old mem_new))
  have hk_295 : Kd S_269 q_258 13 := by rw [eS_270]; exact (kd_nA (k := 14) (n := 6) hq_266 (mem_old mem_new) (kd_nA (k := 14) (n := 7) hq_262 mem_new (kd_nA' (k := 13) (n := 12000))))
  have hn_296 : Ln S_269 q_258 12000 := by rw [eS_270]; exact (ln_nA (k := 14) hq_266 (mem_old mem_new) (ln_nA (k := 14) hq_262 mem_new (ln_nA' (k := 13))))
  have hz_297 : ∀ j, aI S_269 q_258 j = 0 := by rw [eS_270]; exact (fun j9 => rd_nAI (k := 14) (n := 6) hq_266 (mem_old mem_new) ((fun j9 => rd_nAI (k := 14) (n := 7) hq_262 mem_new ((fun j9 => rd_nAI' (k := 13) (n := 12000)) j9)) j9))
  have hm_298 : q_26 ∈ hL S_269 := by rw [eS_270]; exact (mem_old (mem_old (mem_old hm_232)))
  have hk_299 : Kd S_269 q_26 14 := by rw [eS_270]; exact (kd_nA (k := 14) (n := 6) hq_266 (mem_old (mem_old hm_232)) (kd_nA (k := 14) (n := 7) hq_262 (mem_old hm_232) (kd_nA (k := 13) (n := 12000) hq_259 hm_232 hk_233)))
  have hn_300 : Ln S_269 q_26 119 := by rw [eS_270]; exact (ln_nA (k := 14) hq_266 (mem_old (mem_old hm_232)) (ln_nA (k := 14) hq_262 (mem_old hm_232) (ln_nA (k := 13) hq_259 hm_232 hn_234)))
  have hz_301 : ∀ j, aI S_269 q_26 j = 0 := by rw [eS_270]; exact (fun j9 => rd_nAI (k := 14) (n := 6) hq_266 (mem_old (mem_old hm_232)) ((fun j9 => rd_nAI (k := 14) (n := 7) hq_262 (mem_old hm_232) ((fun j9 => rd_nAI (k := 13) (n := 12000) hq_259 hm_232 (hz_235 j9)) j9)) j9))
  have hm_302 : q_261 ∈ hL S_269 := by rw [eS_270]; exact (mem_old mem_new)
  have hk_303 : Kd S_269 q_261 14 := by rw [eS_270]; exact (kd_nA (k := 14) (n := 6) hq_266 mem_new (kd_nA' (k := 14) (n := 7)))
  have hn_304 : Ln S_269 q_261 7 := by rw [eS_270]; exact (ln_nA (k := 14) hq_266 mem_new (ln_nA' (k := 14)))
  have hz_305 : ∀ j, aI S_269 q_261 j = 0 := by rw [eS_270]; exact (fun j9 => rd_nAI (k := 14) (n := 6) hq_266 mem_new ((fun j9 => rd_nAI' (k := 14) (n := 7)) j9))
  have hm_306 : q_265 ∈ hL S_269 := by rw [eS_270]; exact mem_new
  have hk_307 : Kd S_269 q_265 14 := by rw [eS_270]; exact (kd_nA' (k := 14) (n := 6))
  have hn_308 : Ln S_269 q_265 6 := by rw [eS_270]; exact (ln_nA' (k := 14))
  have hz_309 : ∀ j, aI S_269 q_265 j = 0 := by rw [eS_270]; exact (fun j9 => rd_nAI' (k := 14) (n := 6))
  have hm_310 : q_30 ∈ hL S_269 := by rw [eS_270]; exact (mem_old (mem_old (mem_old hm_236)))
  have hk_311 : Kd S_269 q_30 14 := by rw [eS_270]; exact (kd_nA (k := 14) (n := 6) hq_266 (mem_old (mem_old hm_236)) (kd_nA (k := 14) (n := 7) hq_262 (mem_old hm_236) (kd_nA (k := 13) (n := 12000) hq_259 hm_236 hk_237)))
  have hn_312 : Ln S_269 q_30 4096 := by rw [eS_270]; exact (ln_nA (k := 14) hq_266 (mem_old (mem_old hm_236)) (ln_nA (k := 14) hq_262 (mem_old hm_236) (ln_nA (k := 13) hq_259 hm_236 hn_238)))
  have hz_313 : ∀ j, aI S_269 q_30 j = 0 := by rw [eS_270]; exact (fun j9 => rd_nAI (k := 14) (n := 6) hq_266 (mem_old (mem_old hm_236)) ((fun j9 => rd_nAI (k := 14) (n := 7) hq_262 (mem_old hm_236) ((fun j9 => rd_nAI (k := 13) (n := 12000) hq_259 hm_236 (hz_239 j9)) j9)) j9))
  have hm_314 : q_8 ∈ hL S_269 := by rw [eS_270]; exact (mem_old (mem_old (mem_old hm_240)))
  have hk_315 : Kd S_269 q_8 17 := by rw [eS_270]; exact (kd_nA (k := 14) (n := 6) hq_266 (mem_old (mem_old hm_240)) (kd_nA (k := 14) (n := 7) hq_262 (mem_old hm_240) (kd_nA (k := 13) (n := 12000) hq_259 hm_240 hk_241)))
  have hn_316 : Ln S_269 q_8 17 := by rw [eS_270]; exact (ln_nA (k := 14) hq_266 (mem_old (mem_old hm_240)) (ln_nA (k := 14) hq_262 (mem_old hm_240) (ln_nA (k := 13) hq_259 hm_240 hn_242)))
  have hz_317 : ∀ j, aI S_269 q_8 j = 0 := by rw [eS_270]; exact (fun j9 => rd_nAI (k := 14) (n := 6) hq_266 (mem_old (mem_old hm_240)) ((fun j9 => rd_nAI (k := 14) (n := 7) hq_262 (mem_old hm_240) ((fun j9 => rd_nAI (k := 13) (n := 12000) hq_259 hm_240 (hz_243 j9)) j9)) j9))
  have hm_318 : q_97 ∈ hL S_269 := by rw [eS_270]; exact (mem_old (mem_old (mem_old hm_244)))
  have hk_319 : Kd S_269 q_97 17 := by rw [eS_270]; exact (kd_nA (k := 14) (n := 6) hq_266 (mem_old (mem_old hm_244)) (kd_nA (k := 14) (n := 7) hq_262 (mem_old hm_244) (kd_nA (k := 13) (n := 12000) hq_259 hm_244 hk_245)))
  have hn_320 : Ln S_269 q_97 16 := by rw [eS_270]; exact (ln_nA (k := 14) hq_266 (mem_old (mem_old hm_244)) (ln_nA (k := 14) hq_262 (mem_old hm_244) (ln_nA (k := 13) hq_259 hm_244 hn_246)))
  have hz_321 : ∀ j, aI S_269 q_97 j = 0 := by rw [eS_270]; exact (fun j9 => rd_nAI (k := 14) (n := 6) hq_266 (mem_old (mem_old hm_244)) ((fun j9 => rd_nAI (k := 14) (n := 7) hq_262 (mem_old hm_244) ((fun j9 => rd_nAI (k := 13) (n := 12000) hq_259 hm_244 (hz_247 j9)) j9)) j9))
  have hv_322 : hR S_269 1202 h = (some q_8) := by rw [eS_270]; exact (rd_sRf (S := (nA (sR (nA (sR (nA S_207 q_258 13 12000) 1219 h (some q_258)) q_261 14 7) 1220 h (some q_261)) q_265 14 6)) (g := 1221) (a := h) (v := (some q_265)) (by decide) (rd_sRf (S := (nA (sR (nA S_207 q_258 13 12000) 1219 h (some q_258)) q_261 14 7)) (g := 1220) (a := h) (v := (some q_261)) (by decide) (rd_sRf (S := (nA S_207 q_258 13 12000)) (g := 1219) (a := h) (v := (some q_258)) (by decide) hv_248)))
  have hv_323 : hR S_269 1203 h = (some q_23) := by rw [eS_270]; exact (rd_sRf (S := (nA (sR (nA (sR (nA S_207 q_258 13 12000) 1219 h (some q_258)) q_261 14 7) 1220 h (some q_261)) q_265 14 6)) (g := 1221) (a := h) (v := (some q_265)) (by decide) (rd_sRf (S := (nA (sR (nA S_207 q_258 13 12000) 1219 h (some q_258)) q_261 14 7)) (g := 1220) (a := h) (v := (some q_261)) (by decide) (rd_sRf (S := (nA S_207 q_258 13 12000)) (g := 1219) (a := h) (v := (some q_258)) (by decide) hv_249)))
  have hv_324 : hR S_269 1204 h = (some q_26) := by rw [eS_270]; exact (rd_sRf (S := (nA (sR (nA (sR (nA S_207 q_258 13 12000) 1219 h (some q_258)) q_261 14 7) 1220 h (some q_261)) q_265 14 6)) (g := 1221) (a := h) (v := (some q_265)) (by decide) (rd_sRf (S := (nA (sR (nA S_207 q_258 13 12000) 1219 h (some q_258)) q_261 14 7)) (g := 1220) (a := h) (v := (some q_261)) (by decide) (rd_sRf (S := (nA S_207 q_258 13 12000)) (g := 1219) (a := h) (v := (some q_258)) (by decide) hv_250)))
  have hv_325 : hR S_269 1205 h = (some q_30) := by rw [eS_270]; exact (rd_sRf (S := (nA (sR (nA (sR (nA S_207 q_258 13 12000) 1219 h (some q_258)) q_261 14 7) 1220 h (some q_261)) q_265 14 6)) (g := 1221) (a := h) (v := (some q_265)) (by decide) (rd_sRf (S := (nA (sR (nA S_207 q_258 13 12000) 1219 h (some q_258)) q_261 14 7)) (g := 1220) (a := h) (v := (some q_261)) (by decide) (rd_sRf (S := (nA S_207 q_258 13 12000)) (g := 1219) (a := h) (v := (some q_258)) (by decide) hv_251)))
  have hv_326 : hR S_269 1210 h = (some q_97) := by rw [eS_270]; exact (rd_sRf (S := (nA (sR (nA (sR (nA S_207 q_258 13 12000) 1219 h (some q_258)) q_261 14 7) 1220 h (some q_261)) q_265 14 6)) (g := 1221) (a := h) (v := (some q_265)) (by decide) (rd_sRf (S := (nA (sR (nA S_207 q_258 13 12000) 1219 h (some q_258)) q_261 14 7)) (g := 1220) (a := h) (v := (some q_261)) (by decide) (rd_sRf (S := (nA S_207 q_258 13 12000)) (g := 1219) (a := h) (v := (some q_258)) (by decide) hv_252)))
  have hv_327 : hR S_269 1211 h = (some q_100) := by rw [eS_270]; exact (rd_sRf (S := (nA (sR (nA (sR (nA S_207 q_258 13 12000) 1219 h (some q_258)) q_261 14 7) 1220 h (some q_261)) q_265 14 6)) (g := 1221) (a := h) (v := (some q_265)) (by decide) (rd_sRf (S := (nA (sR (nA S_207 q_258 13 12000) 1219 h (some q_258)) q_261 14 7)) (g := 1220) (a := h) (v := (some q_261)) (by decide) (rd_sRf (S := (nA S_207 q_258 13 12000)) (g := 1219) (a := h) (v := (some q_258)) (by decide) hv_253)))
  have hv_328 : hR S_269 1215 h = (some q_151) := by rw [eS_270]; exact (rd_sRf (S := (nA (sR (nA (sR (nA S_207 q_258 13 12000) 1219 h (some q_258)) q_261 14 7) 1220 h (some q_261)) q_265 14 6)) (g := 1221) (a := h) (v := (some q_265)) (by decide) (rd_sRf (S := (nA (sR (nA S_207 q_258 13 12000) 1219 h (some q_258)) q_261 14 7)) (g := 1220) (a := h) (v := (some q_261)) (by decide) (rd_sRf (S := (nA S_207 q_258 13 12000)) (g := 1219) (a := h) (v := (some q_258)) (by decide) hv_254)))
  have hv_329 : hR S_269 1216 h = (some q_196) := by rw [eS_270]; exact (rd_sRf (S := (nA (sR (nA (sR (nA S_207 q_258 13 12000) 1219 h (some q_258)) q_261 14 7) 1220 h (some q_261)) q_265 14 6)) (g := 1221) (a := h) (v := (some q_265)) (by decide) (rd_sRf (S := (nA (sR (nA S_207 q_258 13 12000) 1219 h (some q_258)) q_261 14 7)) (g := 1220) (a := h) (v := (some q_261)) (by decide) (rd_sRf (S := (nA S_207 q_258 13 12000)) (g := 1219) (a := h) (v := (some q_258)) (by decide) hv_255)))
  have hv_330 : hR S_269 1217 h = (some q_199) := by rw [eS_270]; exact (rd_sRf (S := (nA (sR (nA (sR (nA S_207 q_258 13 12000) 1219 h (some q_258)) q_261 14 7) 1220 h (some q_261)) q_265 14 6)) (g := 1221) (a := h) (v := (some q_265)) (by decide) (rd_sRf (S := (nA (sR (nA S_207 q_258 13 12000) 1219 h (some q_258)) q_261 14 7)) (g := 1220) (a := h) (v := (some q_261)) (by decide) (rd_sRf (S := (nA S_207 q_258 13 12000)) (g := 1219) (a := h) (v := (some q_258)) (by decide) hv_256)))
  have hv_331 : hR S_269 1219 h = (some q_258) := by rw [eS_270]; exact (rd_sRf (S := (nA (sR (nA (sR (nA S_207 q_258 13 12000) 1219 h (some q_258)) q_261 14 7) 1220 h (some q_261)) q_265 14 6)) (g := 1221) (a := h) (v := (some q_265)) (by decide) (rd_sRf (S := (nA (sR (nA S_207 q_258 13 12000) 1219 h (some q_258)) q_261 14 7)) (g := 1220) (a := h) (v := (some q_261)) (by decide) (rd_sR (S := (nA S_207 q_258 13 12000)) (g := 1219) (a := h) (v := (some q_258)))))
  have hv_332 : hR S_269 1220 h = (some q_261) := by rw [eS_270]; exact (rd_sRf (S := (nA (sR (nA (sR (nA S_207 q_258 13 12000) 1219 h (some q_258)) q_261 14 7) 1220 h (some q_261)) q_265 14 6)) (g := 1221) (a := h) (v := (some q_265)) (by decide) (rd_sR (S := (nA (sR (nA S_207 q_258 13 12000) 1219 h (some q_258)) q_261 14 7)) (g := 1220) (a := h) (v := (some q_261))))
  have hv_333 : hR S_269 1221 h = (some q_265) := by rw [eS_270]; exact (rd_sR (S := (nA (sR (nA (sR (nA S_207 q_258 13 12000) 1219 h (some q_258)) q_261 14 7) 1220 h (some q_261)) q_265 14 6)) (g := 1221) (a := h) (v := (some q_265)))
  have hf_334 : Fm (fun f9 b9 => (f9 = 1244 ∧ b9 = h) ∨ (f9 = 1245 ∧ b9 = h)) (fun f9 b9 => b9 = h) (fun _ => False) S S_269 := by rw [eS_270]; exact hf_271
  refine j_newB (N := 8000) C ka_byte (by decide) (by decide) (Nat.le_of_ble_eq_true rfl) (M.cells (by decide)) (M.slots (Nat.le_of_ble_eq_true rfl)) dX12_init_185 (fun q_335 hq_336 => ?_)
  have hz_337 : q_335 ∉ hL S := fun h9 => hq_336 (hf_334.mem h9)
  refine j_putrF (f := 1223) C hm9 flX12_75o (by decide) rfl rfl dX12_init_187 (mem_old hm_272) (kd_nA (k := 13) (n := 8000) hq_336 hm_272 hk_273) rfl ?_
  refine j_aload_n C dX12_init_190 rfl 0 rfl ?_
  refine j_sipush (v := 6000) C dX12_init_191 (by decide) ?_
  have hf_340 : Fm (fun f9 b9 => (f9 = 1244 ∧ b9 = h) ∨ (f9 = 1245 ∧ b9 = h)) (fun f9 b9 => b9 = h) (fun _ => False) S (sR (nA S_269 q_335 13 8000) 1223 h (some q_335)) := ((hf_334.nA _ _ hq_336).sR _ (fun _ => rfl))
  refine j_newB (N := 6000) C ka_byte (by decide) (by decide) (Nat.le_of_ble_eq_true rfl) (M.cells (by decide)) (M.slots (Nat.le_of_ble_eq_true rfl)) dX12_init_194 (fun q_338 hq_339 => ?_)
  have hz_341 : q_338 ∉ hL S := fun h9 => hq_339 (hf_340.mem h9)
  refine j_putrF (f := 1225) C hm9 flX12_78o (by decide) rfl rfl dX12_init_196 (mem_old (mem_old hm_272)) (kd_nA (k := 13) (n := 6000) hq_339 (mem_old hm_272) (kd_nA (k := 13) (n := 8000) hq_336 hm_272 hk_273)) rfl ?_
  refine j_aload_n C dX12_init_199 rfl 0 rfl ?_
  refine j_ldc (v := 64000) C dX12_init_200 kcX12_81 ?_
  show J _ _ _ _ _ 202 _
  have hf_344 : Fm (fun f9 b9 => (f9 = 1244 ∧ b9 = h) ∨ (f9 = 1245 ∧ b9 = h)) (fun f9 b9 => b9 = h) (fun _ => False) S (sR (nA (sR (nA S_269 q_335 13 8000) 1223 h (some q_335)) q_338 13 6000) 1225 h (some q_338)) := ((hf_340.nA _ _ hq_339).sR _ (fun _ => rfl))
  refine j_newB (N := 64000) C ka_byte (by decide) (by decide) (Nat.le_of_ble_eq_true rfl) (M.cells (by decide)) (M.slots (Nat.le_of_ble_eq_true rfl)) dX12_init_202 (fun q_342 hq_343 => ?_)
  have hz_345 : q_342 ∉ hL S := fun h9 => hq_343 (hf_344.mem h9)
  refine j_putrF (f := 1234) C hm9 flX12_82o (by decide) rfl rfl dX12_init_204 (mem_old (mem_old (mem_old hm_272))) (kd_nA (k := 13) (n := 64000) hq_343 (mem_old (mem_old hm_272)) (kd_nA (k := 13) (n := 6000) hq_339 (mem_old hm_272) (kd_nA (k := 13) (n := 8000) hq_336 hm_272 hk_273))) rfl ?_
  refine j_aload_n C dX12_init_207 rfl 0 rfl ?_
  refine j_ldc (v := 768000) C dX12_init_208 kcX12_85 ?_
  have hf_348 : Fm (fun f9 b9 => (f9 = 1244 ∧ b9 = h) ∨ (f9 = 1245 ∧ b9 = h)) (fun f9 b9 => b9 = h) (fun _ => False) S (sR (nA (sR (nA (sR (nA S_269 q_335 13 8000) 1223 h (some q_335)) q_338 13 6000) 1225 h (some q_338)) q_342 13 64000) 1234 h (some q_342)) := ((hf_344.nA _ _ hq_343).sR _ (fun _ => rfl))
  obtain ⟨S_346, eS_347⟩ : ∃ S9 : Hp, S9 = (sR (nA (sR (nA (sR (nA S_269 q_335 13 8000) 1223 h (some q_335)) q_338 13 6000) 1225 h (some q_338)) q_342 13 64000) 1234 h (some q_342)) := ⟨_, rfl⟩
  refine J.eq (S' := S_346) eS_347.symm rfl rfl ?_
  have hm_349 : h ∈ hL S_346 := by rw [eS_347]; exact (mem_old (mem_old (mem_old hm_272)))
  have hk_350 : Kd S_346 h 12 := by rw [eS_347]; exact (kd_nA (k := 13) (n := 64000) hq_343 (mem_old (mem_old hm_272)) (kd_nA (k := 13) (n := 6000) hq_339 (mem_old hm_272) (kd_nA (k := 13) (n := 8000) hq_336 hm_272 hk_273)))
  have hm_351 : q_100 ∈ hL S_346 := by rw [eS_347]; exact (mem_old (mem_old (mem_old hm_274)))
  have hk_352 : Kd S_346 q_100 17 := by rw [eS_347]; exact (kd_nA (k := 13) (n := 64000) hq_343 (mem_old (mem_old hm_274)) (kd_nA (k := 13) (n := 6000) hq_339 (mem_old hm_274) (kd_nA (k := 13) (n := 8000) hq_336 hm_274 hk_275)))
  have hn_353 : Ln S_346 q_100 16 := by rw [eS_347]; exact (ln_nA (k := 13) hq_343 (mem_old (mem_old hm_274)) (ln_nA (k := 13) hq_339 (mem_old hm_274) (ln_nA (k := 13) hq_336 hm_274 hn_276)))
  have hz_354 : ∀ j, aI S_346 q_100 j = 0 := by rw [eS_347]; exact (fun j9 => rd_nAI (k := 13) (n := 64000) hq_343 (mem_old (mem_old hm_274)) ((fun j9 => rd_nAI (k := 13) (n := 6000) hq_339 (mem_old hm_274) ((fun j9 => rd_nAI (k := 13) (n := 8000) hq_336 hm_274 (hz_277 j9)) j9)) j9))
  have hm_355 : q_151 ∈ hL S_346 := by rw [eS_347]; exact (mem_old (mem_old (mem_old hm_278)))
  have hk_356 : Kd S_346 q_151 17 := by rw [eS_347]; exact (kd_nA (k := 13) (n := 64000) hq_343 (mem_old (mem_old hm_278)) (kd_nA (k := 13) (n := 6000) hq_339 (mem_old hm_278) (kd_nA (k := 13) (n := 8000) hq_336 hm_278 hk_279)))
  have hn_357 : Ln S_346 q_151 16 := by rw [eS_347]; exact (ln_nA (k := 13) hq_343 (mem_old (mem_old hm_278)) (ln_nA (k := 13) hq_339 (mem_old hm_278) (ln_nA (k := 13) hq_336 hm_278 hn_280)))
  have hz_358 : ∀ j, aI S_346 q_151 j = 0 := by rw [eS_347]; exact (fun j9 => rd_nAI (k := 13) (n := 64000) hq_343 (mem_old (mem_old hm_278)) ((fun j9 => rd_nAI (k := 13) (n := 6000) hq_339 (mem_old hm_278) ((fun j9 => rd_nAI (k := 13) (n := 8000) hq_336 hm_278 (hz_281 j9)) j9)) j9))
  have hm_359 : q_196 ∈ hL S_346 := by rw [eS_347]; exact (mem_old (mem_old (mem_old hm_282)))
  have hk_360 : Kd S_346 q_196 17 := by rw [eS_347]; exact (kd_nA (k := 13) (n := 64000) hq_343 (mem_old (mem_old hm_282)) (kd_nA (k := 13) (n := 6000) hq_339 (mem_old hm_282) (kd_nA (k := 13) (n := 8000) hq_336 hm_282 hk_283)))
  have hn_361 : Ln S_346 q_196 16 := by rw [eS_347]; exact (ln_nA (k := 13) hq_343 (mem_old (mem_old hm_282)) (ln_nA (k := 13) hq_339 (mem_old hm_282) (ln_nA (k := 13) hq_336 hm_282 hn_284)))
  have hz_362 : ∀ j, aI S_346 q_196 j = 0 := by rw [eS_347]; exact (fun j9 => rd_nAI (k := 13) (n := 64000) hq_343 (mem_old (mem_old hm_282)) ((fun j9 => rd_nAI (k := 13) (n := 6000) hq_339 (mem_old hm_282) ((fun j9 => rd_nAI (k := 13) (n := 8000) hq_336 hm_282 (hz_285 j9)) j9)) j9))
  have hm_363 : q_199 ∈ hL S_346 := by rw [eS_347]; exact (mem_old (mem_old (mem_old hm_286)))
  have hk_364 : Kd S_346 q_199 14 := by rw [eS_347]; exact (kd_nA (k := 13) (n := 64000) hq_343 (mem_old (mem_old hm_286)) (kd_nA (k := 13) (n := 6000) hq_339 (mem_old hm_286) (kd_nA (k := 13) (n := 8000) hq_336 hm_286 hk_287)))
  have hn_365 : Ln S_346 q_199 16 := by rw [eS_347]; exact (ln_nA (k := 13) hq_343 (mem_old (mem_old hm_286)) (ln_nA (k := 13) hq_339 (mem_old hm_286) (ln_nA (k := 13) hq_336 hm_286 hn_288)))
  have hz_366 : ∀ j, aI S_346 q_199 j = 0 := by rw [eS_347]; exact (fun j9 => rd_nAI (k := 13) (n := 64000) hq_343 (mem_old (mem_old hm_286)) ((fun j9 => rd_nAI (k := 13) (n := 6000) hq_339 (mem_old hm_286) ((fun j9 => rd_nAI (k := 13) (n := 8000) hq_336 hm_286 (hz_289 j9)) j9)) j9))
  have hm_367 : q_23 ∈ hL S_346 := by rw [eS_347]; exact (mem_old (mem_old (mem_old hm_290)))
  have hk_368 : Kd S_346 q_23 17 := by rw [eS_347]; exact (kd_nA (k := 13) (n := 64000) hq_343 (mem_old (mem_old hm_290)) (kd_nA (k := 13) (n := 6000) hq_339 (mem_old hm_290) (kd_nA (k := 13) (n := 8000) hq_336 hm_290 hk_291)))
  have hn_369 : Ln S_346 q_23 17 := by rw [eS_347]; exact (ln_nA (k := 13) hq_343 (mem_old (mem_old hm_290)) (ln_nA (k := 13) hq_339 (mem_old hm_290) (ln_nA (k := 13) hq_336 hm_290 hn_292)))
  have hz_370 : ∀ j, aI S_346 q_23 j = 0 := by rw [eS_347]; exact (fun j9 => rd_nAI (k := 13) (n := 64000) hq_343 (mem_old (mem_old hm_290)) ((fun j9 => rd_nAI (k := 13) (n := 6000) hq_339 (mem_old hm_290) ((fun j9 => rd_nAI (k := 13) (n := 8000) hq_336 hm_290 (hz_293 j9)) j9)) j9))
  have hm_371 : q_258 ∈ hL S_346 := by rw [eS_347]; exact (mem_old (mem_old (mem_old hm_294)))
  have hk_372 : Kd S_346 q_258 13 := by rw [eS_347]; exact (kd_nA (k := 13) (n := 64000) hq_343 (mem_old (mem_old hm_294)) (kd_nA (k := 13) (n := 6000) hq_339 (mem_old hm_294) (kd_nA (k := 13) (n := 8000) hq_336 hm_294 hk_295)))
  have hn_373 : Ln S_346 q_258 12000 := by rw [eS_347]; exact (ln_nA (k := 13) hq_343 (mem_old (mem_old hm_294)) (ln_nA (k := 13) hq_339 (mem_old hm_294) (ln_nA (k := 13) hq_336 hm_294 hn_296)))
  have hz_374 : ∀ j, aI S_346 q_258 j = 0 := by rw [eS_347]; exact (fun j9 => rd_nAI (k := 13) (n := 64000) hq_343 (mem_old (mem_old hm_294)) ((fun j9 => rd_nAI (k := 13) (n := 6000) hq_339 (mem_old hm_294) ((fun j9 => rd_nAI (k := 13) (n := 8000) hq_336 hm_294 (hz_297 j9)) j9)) j9))
  have hm_375 : q_26 ∈ hL S_346 := by rw [eS_347]; exact (mem_old (mem_old (mem_old hm_298)))
  have hk_376 : Kd S_346 q_26 14 := by rw [eS_347]; exact (kd_nA (k := 13) (n := 64000) hq_343 (mem_old (mem_old hm_298)) (kd_nA (k := 13) (n := 6000) hq_339 (mem_old hm_298) (kd_nA (k := 13) (n := 8000) hq_336 hm_298 hk_299)))
  have hn_377 : Ln S_346 q_26 119 := by rw [eS_347]; exact (ln_nA (k := 13) hq_343 (mem_old (mem_old hm_298)) (ln_nA (k := 13) hq_339 (mem_old hm_298) (ln_nA (k := 13) hq_336 hm_298 hn_300)))
  have hz_378 : ∀ j, aI S_346 q_26 j = 0 := by rw [eS_347]; exact (fun j9 => rd_nAI (k := 13) (n := 64000) hq_343 (mem_old (mem_old hm_298)) ((fun j9 => rd_nAI (k := 13) (n := 6000) hq_339 (mem_old hm_298) ((fun j9 => rd_nAI (k := 13) (n := 8000) hq_336 hm_298 (hz_301 j9)) j9)) j9))
  have hm_379 : q_261 ∈ hL S_346 := by rw [eS_347]; exact (mem_old (mem_old (mem_old hm_302)))
  have hk_380 : Kd S_346 q_261 14 := by rw [eS_347]; exact (kd_nA (k := 13) (n := 64000) hq_343 (mem_old (mem_old hm_302)) (kd_nA (k := 13) (n := 6000) hq_339 (mem_old hm_302) (kd_nA (k := 13) (n := 8000) hq_336 hm_302 hk_303)))
  have hn_381 : Ln S_346 q_261 7 := by rw [eS_347]; exact (ln_nA (k := 13) hq_343 (mem_old (mem_old hm_302)) (ln_nA (k := 13) hq_339 (mem_old hm_302) (ln_nA (k := 13) hq_336 hm_302 hn_304)))
  have hz_382 : ∀ j, aI S_346 q_261 j = 0 := by rw [eS_347]; exact (fun j9 => rd_nAI (k := 13) (n := 64000) hq_343 (mem_old (mem_old hm_302)) ((fun j9 => rd_nAI (k := 13) (n := 6000) hq_339 (mem_old hm_302) ((fun j9 => rd_nAI (k := 13) (n := 8000) hq_336 hm_302 (hz_305 j9)) j9)) j9))
  have hm_383 : q_265 ∈ hL S_346 := by rw [eS_347]; exact (mem_old (mem_old (mem_old hm_306)))
  have hk_384 : Kd S_346 q_265 14 := by rw [eS_347]; exact (kd_nA (k := 13) (n := 64000) hq_343 (mem_old (mem_old hm_306)) (kd_nA (k := 13) (n := 6000) hq_339 (mem_old hm_306) (kd_nA (k := 13) (n := 8000) hq_336 hm_306 hk_307)))
  have hn_385 : Ln S_346 q_265 6 := by rw [eS_347]; exact (ln_nA (k := 13) hq_343 (mem_old (mem_old hm_306)) (ln_nA (k := 13) hq_339 (mem_old hm_306) (ln_nA (k := 13) hq_336 hm_306 hn_308)))
  have hz_386 : ∀ j, aI S_346 q_265 j = 0 := by rw [eS_347]; exact (fun j9 => rd_nAI (k := 13) (n := 64000) hq_343 (mem_old (mem_old hm_306)) ((fun j9 => rd_nAI (k := 13) (n := 6000) hq_339 (mem_old hm_306) ((fun j9 => rd_nAI (k := 13) (n := 8000) hq_336 hm_306 (hz_309 j9)) j9)) j9))
  have hm_387 : q_30 ∈ hL S_346 := by rw [eS_347]; exact (mem_old (mem_old (mem_old hm_310)))
  have hk_388 : Kd S_346 q_30 14 := by rw [eS_347]; exact (kd_nA (k := 13) (n := 64000) hq_343 (mem_old (mem_old hm_310)) (kd_nA (k := 13) (n := 6000) hq_339 (mem_old hm_310) (kd_nA (k := 13) (n := 8000) hq_336 hm_310 hk_311)))
  have hn_389 : Ln S_346 q_30 4096 := by rw [eS_347]; exact (ln_nA (k := 13) hq_343 (mem_old (mem_old hm_310)) (ln_nA (k := 13) hq_339 (mem_old hm_310) (ln_nA (k := 13) hq_336 hm_310 hn_312)))
  have hz_390 : ∀ j, aI S_346 q_30 j = 0 := by rw [eS_347]; exact (fun j9 => rd_nAI (k := 13) (n := 64000) hq_343 (mem_old (mem_old hm_310)) ((fun j9 => rd_nAI (k := 13) (n := 6000) hq_339 (mem_old hm_310) ((fun j9 => rd_nAI (k := 13) (n := 8000) hq_336 hm_310 (hz_313 j9)) j9)) j9))
  have hm_391 : q_335 ∈ hL S_346 := by rw [eS_347]; exact (mem_old (mem_old mem_new))
  have hk_392 : Kd S_346 q_335 13 := by rw [eS_347]; exact (kd_nA (k := 13) (n := 64000) hq_343 (mem_old mem_new) (kd_nA (k := 13) (n := 6000) hq_339 mem_new (kd_nA' (k := 13) (n := 8000))))
  have hn_393 : Ln S_346 q_335 8000 := by rw [eS_347]; exact (ln_nA (k := 13) hq_343 (mem_old mem_new) (ln_nA (k := 13) hq_339 mem_new (ln_nA' (k := 13))))
  have hz_394 : ∀ j, aI S_346 q_335 j = 0 := by rw [eS_347]; exact (fun j9 => rd_nAI (k := 13) (n := 64000) hq_343 (mem_old mem_new) ((fun j9 => rd_nAI (k := 13) (n := 6000) hq_339 mem_new ((fun j9 => rd_nAI' (k := 13) (n := 8000)) j9)) j9))
  have hm_395 : q_342 ∈ hL S_346 := by rw [eS_347]; exact mem_new
  have hk_396 : Kd S_346 q_342 13 := by rw [eS_347]; exact (kd_nA' (k := 13) (n := 64000))
  have hn_397 : Ln S_346 q_342 64000 := by rw [eS_347]; exact (ln_nA' (k := 13))
  have hz_398 : ∀ j, aI S_346 q_342 j = 0 := by rw [eS_347]; exact (fun j9 => rd_nAI' (k := 13) (n := 64000))
  have hm_399 : q_8 ∈ hL S_346 := by rw [eS_347]; exact (mem_old (mem_old (mem_old hm_314)))
  have hk_400 : Kd S_346 q_8 17 := by rw [eS_347]; exact (kd_nA (k := 13) (n := 64000) hq_343 (mem_old (mem_old hm_314)) (kd_nA (k := 13) (n := 6000) hq_339 (mem_old hm_314) (kd_nA (k := 13) (n := 8000) hq_336 hm_314 hk_315)))
  have hn_401 : Ln S_346 q_8 17 := by rw [eS_347]; exact (ln_nA (k := 13) hq_343 (mem_old (mem_old hm_314)) (ln_nA (k := 13) hq_339 (mem_old hm_314) (ln_nA (k := 13) hq_336 hm_314 hn_316)))
  have hz_402 : ∀ j, aI S_346 q_8 j = 0 := by rw [eS_347]; exact (fun j9 => rd_nAI (k := 13) (n := 64000) hq_343 (mem_old (mem_old hm_314)) ((fun j9 => rd_nAI (k := 13) (n := 6000) hq_339 (mem_old hm_314) ((fun j9 => rd_nAI (k := 13) (n := 8000) hq_336 hm_314 (hz_317 j9)) j9)) j9))
  have hm_403 : q_97 ∈ hL S_346 := by rw [eS_347]; exact (mem_old (mem_old (mem_old hm_318)))
  have hk_404 : Kd S_346 q_97 17 := by rw [eS_347]; exact (kd_nA (k := 13) (n := 64000) hq_343 (mem_old (mem_old hm_318)) (kd_nA (k := 13) (n := 6000) hq_339 (mem_old hm_318) (kd_nA (k := 13) (n := 8000) hq_336 hm_318 hk_319)))
  have hn_405 : Ln S_346 q_97 16 := by rw [eS_347]; exact (ln_nA (k := 13) hq_343 (mem_old (mem_old hm_318)) (ln_nA (k := 13) hq_339 (mem_old hm_318) (ln_nA (k := 13) hq_336 hm_318 hn_320)))
  have hz_406 : ∀ j, aI S_346 q_97 j = 0 := by rw [eS_347]; exact (fun j9 => rd_nAI (k := 13) (n := 64000) hq_343 (mem_old (mem_old hm_318)) ((fun j9 => rd_nAI (k := 13) (n := 6000) hq_339 (mem_old hm_318) ((fun j9 => rd_nAI (k := 13) (n := 8000) hq_336 hm_318 (hz_321 j9)) j9)) j9))
  have hv_407 : hR S_346 1202 h = (some q_8) := by rw [eS_347]; exact (rd_sRf (S := (nA (sR (nA (sR (nA S_269 q_335 13 8000) 1223 h (some q_335)) q_338 13 6000) 1225 h (some q_338)) q_342 13 64000)) (g := 1234) (a := h) (v := (some q_342)) (by decide) (rd_sRf (S := (nA (sR (nA S_269 q_335 13 8000) 1223 h (some q_335)) q_338 13 6000)) (g := 1225) (a := h) (v := (some q_338)) (by decide) (rd_sRf (S := (nA S_269 q_335 13 8000)) (g := 1223) (a := h) (v := (some q_335)) (by decide) hv_322)))
  have hv_408 : hR S_346 1203 h = (some q_23) := by rw [eS_347]; exact (rd_sRf (S := (nA (sR (nA (sR (nA S_269 q_335 13 8000) 1223 h (some q_335)) q_338 13 6000) 1225 h (some q_338)) q_342 13 64000)) (g := 1234) (a := h) (v := (some q_342)) (by decide) (rd_sRf (S := (nA (sR (nA S_269 q_335 13 8000) 1223 h (some q_335)) q_338 13 6000)) (g := 1225) (a := h) (v := (some q_338)) (by decide) (rd_sRf (S := (nA S_269 q_335 13 8000)) (g := 1223) (a := h) (v := (some q_335)) (by decide) hv_323)))
  have hv_409 : hR S_346 1204 h = (some q_26) := by rw [eS_347]; exact (rd_sRf (S := (nA (sR (nA (sR (nA S_269 q_335 13 8000) 1223 h (some q_335)) q_338 13 6000) 1225 h (some q_338)) q_342 13 64000)) (g := 1234) (a := h) (v := (some q_342)) (by decide) (rd_sRf (S := (nA (sR (nA S_269 q_335 13 8000) 1223 h (some q_335)) q_338 13 6000)) (g := 1225) (a := h) (v := (some q_338)) (by decide) (rd_sRf (S := (nA S_269 q_335 13 8000)) (g := 1223) (a := h) (v := (some q_335)) (by decide) hv_324)))
  have hv_410 : hR S_346 1205 h = (some q_30) := by rw [eS_347]; exact (rd_sRf (S := (nA (sR (nA (sR (nA S_269 q_335 13 8000) 1223 h (some q_335)) q_338 13 6000) 1225 h (some q_338)) q_342 13 64000)) (g := 1234) (a := h) (v := (some q_342)) (by decide) (rd_sRf (S := (nA (sR (nA S_269 q_335 13 8000) 1223 h (some q_335)) q_338 13 6000)) (g := 1225) (a := h) (v := (some q_338)) (by decide) (rd_sRf (S := (nA S_269 q_335 13 8000)) (g := 1223) (a := h) (v := (some q_335)) (by decide) hv_325)))
  have hv_411 : hR S_346 1210 h = (some q_97) := by rw [eS_347]; exact (rd_sRf (S := (nA (sR (nA (sR (nA S_269 q_335 13 8000) 1223 h (some q_335)) q_338 13 6000) 1225 h (some q_338)) q_342 13 64000)) (g := 1234) (a := h) (v := (some q_342)) (by decide) (rd_sRf (S := (nA (sR (nA S_269 q_335 13 8000) 1223 h (some q_335)) q_338 13 6000)) (g := 1225) (a := h) (v := (some q_338)) (by decide) (rd_sRf (S := (nA S_269 q_335 13 8000)) (g := 1223) (a := h) (v := (some q_335)) (by decide) hv_326)))
  have hv_412 : hR S_346 1211 h = (some q_100) := by rw [eS_347]; exact (rd_sRf (S := (nA (sR (nA (sR (nA S_269 q_335 13 8000) 1223 h (some q_335)) q_338 13 6000) 1225 h (some q_338)) q_342 13 64000)) (g := 1234) (a := h) (v := (some q_342)) (by decide) (rd_sRf (S := (nA (sR (nA S_269 q_335 13 8000) 1223 h (some q_335)) q_338 13 6000)) (g := 1225) (a := h) (v := (some q_338)) (by decide) (rd_sRf (S := (nA S_269 q_335 13 8000)) (g := 1223) (a := h) (v := (some q_335)) (by decide) hv_327)))
  have hv_413 : hR S_346 1215 h = (some q_151) := by rw [eS_347]; exact (rd_sRf (S := (nA (sR (nA (sR (nA S_269 q_335 13 8000) 1223 h (some q_335)) q_338 13 6000) 1225 h (some q_338)) q_342 13 64000)) (g := 1234) (a := h) (v := (some q_342)) (by decide) (rd_sRf (S := (nA (sR (nA S_269 q_335 13 8000) 1223 h (some q_335)) q_338 13 6000)) (g := 1225) (a := h) (v := (some q_338)) (by decide) (rd_sRf (S := (nA S_269 q_335 13 8000)) (g := 1223) (a := h) (v := (some q_335)) (by decide) hv_328)))
  have hv_414 : hR S_346 1216 h = (some q_196) := by rw [eS_347]; exact (rd_sRf (S := (nA (sR (nA (sR (nA S_269 q_335 13 8000) 1223 h (some q_335)) q_338 13 6000) 1225 h (some q_338)) q_342 13 64000)) (g := 1234) (a := h) (v := (some q_342)) (by decide) (rd_sRf (S := (nA (sR (nA S_269 q_335 13 8000) 1223 h (some q_335)) q_338 13 6000)) (g := 1225) (a := h) (v := (some q_338)) (by decide) (rd_sRf (S := (nA S_269 q_335 13 8000)) (g := 1223) (a := h) (v := (some q_335)) (by decide) hv_329)))
  have hv_415 : hR S_346 1217 h = (some q_199) := by rw [eS_347]; exact (rd_sRf (S := (nA (sR (nA (sR (nA S_269 q_335 13 8000) 1223 h (some q_335)) q_338 13 6000) 1225 h (some q_338)) q_342 13 64000)) (g := 1234) (a := h) (v := (some q_342)) (by decide) (rd_sRf (S := (nA (sR (nA S_269 q_335 13 8000) 1223 h (some q_335)) q_338 13 6000)) (g := 1225) (a := h) (v := (some q_338)) (by decide) (rd_sRf (S := (nA S_269 q_335 13 8000)) (g := 1223) (a := h) (v := (some q_335)) (by decide) hv_330)))
  have hv_416 : hR S_346 1219 h = (some q_258) := by rw [eS_347]; exact (rd_sRf (S := (nA (sR (nA (sR (nA S_269 q_335 13 8000) 1223 h (some q_335)) q_338 13 6000) 1225 h (some q_338)) q_342 13 64000)) (g := 1234) (a := h) (v := (some q_342)) (by decide) (rd_sRf (S := (nA (sR (nA S_269 q_335 13 8000) 1223 h (some q_335)) q_338 13 6000)) (g := 1225) (a := h) (v := (some q_338)) (by decide) (rd_sRf (S := (nA S_269 q_335 13 8000)) (g := 1223) (a := h) (v := (some q_335)) (by decide) hv_331)))
  have hv_417 : hR S_346 1220 h = (some q_261) := by rw [eS_347]; exact (rd_sRf (S := (nA (sR (nA (sR (nA S_269 q_335 13 8000) 1223 h (some q_335)) q_338 13 6000) 1225 h (some q_338)) q_342 13 64000)) (g := 1234) (a := h) (v := (some q_342)) (by decide) (rd_sRf (S := (nA (sR (nA S_269 q_335 13 8000) 1223 h (some q_335)) q_338 13 6000)) (g := 1225) (a := h) (v := (some q_338)) (by decide) (rd_sRf (S := (nA S_269 q_335 13 8000)) (g := 1223) (a := h) (v := (some q_335)) (by decide) hv_332)))
  have hv_418 : hR S_346 1221 h = (some q_265) := by rw [eS_347]; exact (rd_sRf (S := (nA (sR (nA (sR (nA S_269 q_335 13 8000) 1223 h (some q_335)) q_338 13 6000) 1225 h (some q_338)) q_342 13 64000)) (g := 1234) (a := h) (v := (some q_342)) (by decide) (rd_sRf (S := (nA (sR (nA S_269 q_335 13 8000) 1223 h (some q_335)) q_338 13 6000)) (g := 1225) (a := h) (v := (some q_338)) (by decide) (rd_sRf (S := (nA S_269 q_335 13 8000)) (g := 1223) (a := h) (v := (some q_335)) (by decide) hv_333)))
  have hv_419 : hR S_346 1223 h = (some q_335) := by rw [eS_347]; exact (rd_sRf (S := (nA (sR (nA (sR (nA S_269 q_335 13 8000) 1223 h (some q_335)) q_338 13 6000) 1225 h (some q_338)) q_342 13 64000)) (g := 1234) (a := h) (v := (some q_342)) (by decide) (rd_sRf (S := (nA (sR (nA S_269 q_335 13 8000) 1223 h (some q_335)) q_338 13 6000)) (g := 1225) (a := h) (v := (some q_338)) (by decide) (rd_sR (S := (nA S_269 q_335 13 8000)) (g := 1223) (a := h) (v := (some q_335)))))
  have hv_420 : hR S_346 1234 h = (some q_342) := by rw [eS_347]; exact (rd_sR (S := (nA (sR (nA (sR (nA S_269 q_335 13 8000) 1223 h (some q_335)) q_338 13 6000) 1225 h (some q_338)) q_342 13 64000)) (g := 1234) (a := h) (v := (some q_342)))
  have hf_421 : Fm (fun f9 b9 => (f9 = 1244 ∧ b9 = h) ∨ (f9 = 1245 ∧ b9 = h)) (fun f9 b9 => b9 = h) (fun _ => False) S S_346 := by rw [eS_347]; exact hf_348
  refine j_newB (N := 768000) C ka_byte (by decide) (by decide) (Nat.le_of_ble_eq_true rfl) (M.cells (by decide)) (M.slots (Nat.le_of_ble_eq_true rfl)) dX12_init_210 (fun q_422 hq_423 => ?_)
  have hz_424 : q_422 ∉ hL S := fun h9 => hq_423 (hf_421.mem h9)
  refine j_putrF (f := 1237) C hm9 flX12_86o (by decide) rfl rfl dX12_init_212 (mem_old hm_349) (kd_nA (k := 13) (n := 768000) hq_423 hm_349 hk_350) rfl ?_
  refine j_aload_n C dX12_init_215 rfl 0 rfl ?_
  refine j_bipush (v := 12) C dX12_init_216 (by decide) ?_
  show J _ _ _ _ _ 218 _
  have hf_427 : Fm (fun f9 b9 => (f9 = 1244 ∧ b9 = h) ∨ (f9 = 1245 ∧ b9 = h)) (fun f9 b9 => b9 = h) (fun _ => False) S (sR (nA S_346 q_422 13 768000) 1237 h (some q_422)) := ((hf_421.nA _ _ hq_423).sR _ (fun _ => rfl))
  refine j_newI (N := 12) C ka_int (by decide) (by decide) (Nat.le_of_ble_eq_true rfl) (M.cells (by decide)) (M.slots (Nat.le_of_ble_eq_true rfl)) dX12_init_218 (fun q_425 hq_426 => ?_)
  have hz_428 : q_425 ∉ hL S := fun h9 => hq_426 (hf_427.mem h9)
  refine j_putrF (f := 1238) C hm9 flX12_89o (by decide) rfl rfl dX12_init_220 (mem_old (mem_old hm_349)) (kd_nA (k := 14) (n := 12) hq_426 (mem_old hm_349) (kd_nA (k := 13) (n := 768000) hq_423 hm_349 hk_350)) rfl ?_
  refine j_aload_n C dX12_init_223 rfl 0 rfl ?_
  refine j_bipush (v := 12) C dX12_init_224 (by decide) ?_
  have hf_431 : Fm (fun f9 b9 => (f9 = 1244 ∧ b9 = h) ∨ (f9 = 1245 ∧ b9 = h)) (fun f9 b9 => b9 = h) (fun _ => False) S (sR (nA (sR (nA S_346 q_422 13 768000) 1237 h (some q_422)) q_425 14 12) 1238 h (some q_425)) := ((hf_427.nA _ _ hq_426).sR _ (fun _ => rfl))
  refine j_newI (N := 12) C ka_int (by decide) (by decide) (Nat.le_of_ble_eq_true rfl) (M.cells (by decide)) (M.slots (Nat.le_of_ble_eq_true rfl)) dX12_init_226 (fun q_429 hq_430 => ?_)
  have hz_432 : q_429 ∉ hL S := fun h9 => hq_430 (hf_431.mem h9)
  refine j_putrF (f := 1239) C hm9 flX12_92o (by decide) rfl rfl dX12_init_228 (mem_old (mem_old (mem_old hm_349))) (kd_nA (k := 14) (n := 12) hq_430 (mem_old (mem_old hm_349)) (kd_nA (k := 14) (n := 12) hq_426 (mem_old hm_349) (kd_nA (k := 13) (n := 768000) hq_423 hm_349 hk_350))) rfl ?_
  refine j_aload_n C dX12_init_231 rfl 0 rfl ?_
  refine j_ldc (v := 60008) C dX12_init_232 kcX12_95 ?_
  show J _ _ _ _ _ 234 _
  have hf_435 : Fm (fun f9 b9 => (f9 = 1244 ∧ b9 = h) ∨ (f9 = 1245 ∧ b9 = h)) (fun f9 b9 => b9 = h) (fun _ => False) S (sR (nA (sR (nA (sR (nA S_346 q_422 13 768000) 1237 h (some q_422)) q_425 14 12) 1238 h (some q_425)) q_429 14 12) 1239 h (some q_429)) := ((hf_431.nA _ _ hq_430).sR _ (fun _ => rfl))
  obtain ⟨S_433, eS_434⟩ : ∃ S9 : Hp, S9 = (sR (nA (sR (nA (sR (nA S_346 q_422 13 768000) 1237 h (some q_422)) q_425 14 12) 1238 h (some q_425)) q_429 14 12) 1239 h (some q_429)) := ⟨_, rfl⟩
  refine J.eq (S' := S_433) eS_434.symm rfl rfl ?_
  have hm_436 : h ∈ hL S_433 := by rw [eS_434]; exact (mem_old (mem_old (mem_old hm_349)))
  have hk_437 : Kd S_433 h 12 := by rw [eS_434]; exact (kd_nA (k := 14) (n := 12) hq_430 (mem_old (mem_old hm_349)) (kd_nA (k := 14) (n := 12) hq_426 (mem_old hm_349) (kd_nA (k := 13) (n := 768000) hq_423 hm_349 hk_350)))
  have hm_438 : q_100 ∈ hL S_433 := by rw [eS_434]; exact (mem_old (mem_old (mem_old hm_351)))
  have hk_439 : Kd S_433 q_100 17 := by rw [eS_434]; exact (kd_nA (k := 14) (n := 12) hq_430 (mem_old (mem_old hm_351)) (kd_nA (k := 14) (n := 12) hq_426 (mem_old hm_351) (kd_nA (k := 13) (n := 768000) hq_423 hm_351 hk_352)))
  have hn_440 : Ln S_433 q_100 16 := by rw [eS_434]; exact (ln_nA (k := 14) hq_430 (mem_old (mem_old hm_351)) (ln_nA (k := 14) hq_426 (mem_old hm_351) (ln_nA (k := 13) hq_423 hm_351 hn_353)))
  have hz_441 : ∀ j, aI S_433 q_100 j = 0 := by rw [eS_434]; exact (fun j9 => rd_nAI (k := 14) (n := 12) hq_430 (mem_old (mem_old hm_351)) ((fun j9 => rd_nAI (k := 14) (n := 12) hq_426 (mem_old hm_351) ((fun j9 => rd_nAI (k := 13) (n := 768000) hq_423 hm_351 (hz_354 j9)) j9)) j9))
  have hm_442 : q_151 ∈ hL S_433 := by rw [eS_434]; exact (mem_old (mem_old (mem_old hm_355)))
  have hk_443 : Kd S_433 q_151 17 := by rw [eS_434]; exact (kd_nA (k := 14) (n := 12) hq_430 (mem_old (mem_old hm_355)) (kd_nA (k := 14) (n := 12) hq_426 (mem_old hm_355) (kd_nA (k := 13) (n := 768000) hq_423 hm_355 hk_356)))
  have hn_444 : Ln S_433 q_151 16 := by rw [eS_434]; exact (ln_nA (k := 14) hq_430 (mem_old (mem_old hm_355)) (ln_nA (k := 14) hq_426 (mem_old hm_355) (ln_nA (k := 13) hq_423 hm_355 hn_357)))
  have hz_445 : ∀ j, aI S_433 q_151 j = 0 := by rw [eS_434]; exact (fun j9 => rd_nAI (k := 14) (n := 12) hq_430 (mem_old (mem_old hm_355)) ((fun j9 => rd_nAI (k := 14) (n := 12) hq_426 (mem_old hm_355) ((fun j9 => rd_nAI (k := 13) (n := 768000) hq_423 hm_355 (hz_358 j9)) j9)) j9))
  have hm_446 : q_196 ∈ hL S_433 := by rw [eS_434]; exact (mem_old (mem_old (mem_old hm_359)))
  have hk_447 : Kd S_433 q_196 17 := by rw [eS_434]; exact (kd_nA (k := 14) (n := 12) hq_430 (mem_old (mem_old hm_359)) (kd_nA (k := 14) (n := 12) hq_426 (mem_old hm_359) (kd_nA (k := 13) (n := 768000) hq_423 hm_359 hk_360)))
  have hn_448 : Ln S_433 q_196 16 := by rw [eS_434]; exact (ln_nA (k := 14) hq_430 (mem_old (mem_old hm_359)) (ln_nA (k := 14) hq_426 (mem_old hm_359) (ln_nA (k := 13) hq_423 hm_359 hn_361)))
  have hz_449 : ∀ j, aI S_433 q_196 j = 0 := by rw [eS_434]; exact (fun j9 => rd_nAI (k := 14) (n := 12) hq_430 (mem_old (mem_old hm_359)) ((fun j9 => rd_nAI (k := 14) (n := 12) hq_426 (mem_old hm_359) ((fun j9 => rd_nAI (k := 13) (n := 768000) hq_423 hm_359 (hz_362 j9)) j9)) j9))
  have hm_450 : q_199 ∈ hL S_433 := by rw [eS_434]; exact (mem_old (mem_old (mem_old hm_363)))
  have hk_451 : Kd S_433 q_199 14 := by rw [eS_434]; exact (kd_nA (k := 14) (n := 12) hq_430 (mem_old (mem_old hm_363)) (kd_nA (k := 14) (n := 12) hq_426 (mem_old hm_363) (kd_nA (k := 13) (n := 768000) hq_423 hm_363 hk_364)))
  have hn_452 : Ln S_433 q_199 16 := by rw [eS_434]; exact (ln_nA (k := 14) hq_430 (mem_old (mem_old hm_363)) (ln_nA (k := 14) hq_426 (mem_old hm_363) (ln_nA (k := 13) hq_423 hm_363 hn_365)))
  have hz_453 : ∀ j, aI S_433 q_199 j = 0 := by rw [eS_434]; exact (fun j9 => rd_nAI (k := 14) (n := 12) hq_430 (mem_old (mem_old hm_363)) ((fun j9 => rd_nAI (k := 14) (n := 12) hq_426 (mem_old hm_363) ((fun j9 => rd_nAI (k := 13) (n := 768000) hq_423 hm_363 (hz_366 j9)) j9)) j9))
  have hm_454 : q_23 ∈ hL S_433 := by rw [eS_434]; exact (mem_old (mem_old (mem_old hm_367)))
  have hk_455 : Kd S_433 q_23 17 := by rw [eS_434]; exact (kd_nA (k := 14) (n := 12) hq_430 (mem_old (mem_old hm_367)) (kd_nA (k := 14) (n := 12) hq_426 (mem_old hm_367) (kd_nA (k := 13) (n := 768000) hq_423 hm_367 hk_368)))
  have hn_456 : Ln S_433 q_23 17 := by rw [eS_434]; exact (ln_nA (k := 14) hq_430 (mem_old (mem_old hm_367)) (ln_nA (k := 14) hq_426 (mem_old hm_367) (ln_nA (k := 13) hq_423 hm_367 hn_369)))
  have hz_457 : ∀ j, aI S_433 q_23 j = 0 := by rw [eS_434]; exact (fun j9 => rd_nAI (k := 14) (n := 12) hq_430 (mem_old (mem_old hm_367)) ((fun j9 => rd_nAI (k := 14) (n := 12) hq_426 (mem_old hm_367) ((fun j9 => rd_nAI (k := 13) (n := 768000) hq_423 hm_367 (hz_370 j9)) j9)) j9))
  have hm_458 : q_258 ∈ hL S_433 := by rw [eS_434]; exact (mem_old (mem_old (mem_old hm_371)))
  have hk_459 : Kd S_433 q_258 13 := by rw [eS_434]; exact (kd_nA (k := 14) (n := 12) hq_430 (mem_old (mem_old hm_371)) (kd_nA (k := 14) (n := 12) hq_426 (mem_old hm_371) (kd_nA (k := 13) (n := 768000) hq_423 hm_371 hk_372)))
  have hn_460 : Ln S_433 q_258 12000 := by rw [eS_434]; exact (ln_nA (k := 14) hq_430 (mem_old (mem_old hm_371)) (ln_nA (k := 14) hq_426 (mem_old hm_371) (ln_nA (k := 13) hq_423 hm_371 hn_373)))
  have hz_461 : ∀ j, aI S_433 q_258 j = 0 := by rw [eS_434]; exact (fun j9 => rd_nAI (k := 14) (n := 12) hq_430 (mem_old (mem_old hm_371)) ((fun j9 => rd_nAI (k := 14) (n := 12) hq_426 (mem_old hm_371) ((fun j9 => rd_nAI (k := 13) (n := 768000) hq_423 hm_371 (hz_374 j9)) j9)) j9))
  have hm_462 : q_26 ∈ hL S_433 := by rw [eS_434]; exact (mem_old (mem_old (mem_old hm_375)))
  have hk_463 : Kd S_433 q_26 14 := by rw [eS_434]; exact (kd_nA (k := 14) (n := 12) hq_430 (mem_old (mem_old hm_375)) (kd_nA (k := 14) (n := 12) hq_426 (mem_old hm_375) (kd_nA (k := 13) (n := 768000) hq_423 hm_375 hk_376)))
  have hn_464 : Ln S_433 q_26 119 := by rw [eS_434]; exact (ln_nA (k := 14) hq_430 (mem_old (mem_old hm_375)) (ln_nA (k := 14) hq_426 (mem_old hm_375) (ln_nA (k := 13) hq_423 hm_375 hn_377)))
  have hz_465 : ∀ j, aI S_433 q_26 j = 0 := by rw [eS_434]; exact (fun j9 => rd_nAI (k := 14) (n := 12) hq_430 (mem_old (mem_old hm_375)) ((fun j9 => rd_nAI (k := 14) (n := 12) hq_426 (mem_old hm_375) ((fun j9 => rd_nAI (k := 13) (n := 768000) hq_423 hm_375 (hz_378 j9)) j9)) j9))
  have hm_466 : q_261 ∈ hL S_433 := by rw [eS_434]; exact (mem_old (mem_old (mem_old hm_379)))
  have hk_467 : Kd S_433 q_261 14 := by rw [eS_434]; exact (kd_nA (k := 14) (n := 12) hq_430 (mem_old (mem_old hm_379)) (kd_nA (k := 14) (n := 12) hq_426 (mem_old hm_379) (kd_nA (k := 13) (n := 768000) hq_423 hm_379 hk_380)))
  have hn_468 : Ln S_433 q_261 7 := by rw [eS_434]; exact (ln_nA (k := 14) hq_430 (mem_old (mem_old hm_379)) (ln_nA (k := 14) hq_426 (mem_old hm_379) (ln_nA (k := 13) hq_423 hm_379 hn_381)))
  have hz_469 : ∀ j, aI S_433 q_261 j = 0 := by rw [eS_434]; exact (fun j9 => rd_nAI (k := 14) (n := 12) hq_430 (mem_old (mem_old hm_379)) ((fun j9 => rd_nAI (k := 14) (n := 12) hq_426 (mem_old hm_379) ((fun j9 => rd_nAI (k := 13) (n := 768000) hq_423 hm_379 (hz_382 j9)) j9)) j9))
  have hm_470 : q_265 ∈ hL S_433 := by rw [eS_434]; exact (mem_old (mem_old (mem_old hm_383)))
  have hk_471 : Kd S_433 q_265 14 := by rw [eS_434]; exact (kd_nA (k := 14) (n := 12) hq_430 (mem_old (mem_old hm_383)) (kd_nA (k := 14) (n := 12) hq_426 (mem_old hm_383) (kd_nA (k := 13) (n := 768000) hq_423 hm_383 hk_384)))
  have hn_472 : Ln S_433 q_265 6 := by rw [eS_434]; exact (ln_nA (k := 14) hq_430 (mem_old (mem_old hm_383)) (ln_nA (k := 14) hq_426 (mem_old hm_383) (ln_nA (k := 13) hq_423 hm_383 hn_385)))
  have hz_473 : ∀ j, aI S_433 q_265 j = 0 := by rw [eS_434]; exact (fun j9 => rd_nAI (k := 14) (n := 12) hq_430 (mem_old (mem_old hm_383)) ((fun j9 => rd_nAI (k := 14) (n := 12) hq_426 (mem_old hm_383) ((fun j9 => rd_nAI (k := 13) (n := 768000) hq_423 hm_383 (hz_386 j9)) j9)) j9))
  have hm_474 : q_30 ∈ hL S_433 := by rw [eS_434]; exact (mem_old (mem_old (mem_old hm_387)))
  have hk_475 : Kd S_433 q_30 14 := by rw [eS_434]; exact (kd_nA (k := 14) (n := 12) hq_430 (mem_old (mem_old hm_387)) (kd_nA (k := 14) (n := 12) hq_426 (mem_old hm_387) (kd_nA (k := 13) (n := 768000) hq_423 hm_387 hk_388)))
  have hn_476 : Ln S_433 q_30 4096 := by rw [eS_434]; exact (ln_nA (k := 14) hq_430 (mem_old (mem_old hm_387)) (ln_nA (k := 14) hq_426 (mem_old hm_387) (ln_nA (k := 13) hq_423 hm_387 hn_389)))
  have hz_477 : ∀ j, aI S_433 q_30 j = 0 := by rw [eS_434]; exact (fun j9 => rd_nAI (k := 14) (n := 12) hq_430 (mem_old (mem_old hm_387)) ((fun j9 => rd_nAI (k := 14) (n := 12) hq_426 (mem_old hm_387) ((fun j9 => rd_nAI (k := 13) (n := 768000) hq_423 hm_387 (hz_390 j9)) j9)) j9))
  have hm_478 : q_335 ∈ hL S_433 := by rw [eS_434]; exact (mem_old (mem_old (mem_old hm_391)))
  have hk_479 : Kd S_433 q_335 13 := by rw [eS_434]; exact (kd_nA (k := 14) (n := 12) hq_430 (mem_old (mem_old hm_391)) (kd_nA (k := 14) (n := 12) hq_426 (mem_old hm_391) (kd_nA (k := 13) (n := 768000) hq_423 hm_391 hk_392)))
  have hn_480 : Ln S_433 q_335 8000 := by rw [eS_434]; exact (ln_nA (k := 14) hq_430 (mem_old (mem_old hm_391)) (ln_nA (k := 14) hq_426 (mem_old hm_391) (ln_nA (k := 13) hq_423 hm_391 hn_393)))
  have hz_481 : ∀ j, aI S_433 q_335 j = 0 := by rw [eS_434]; exact (fun j9 => rd_nAI (k := 14) (n := 12) hq_430 (mem_old (mem_old hm_391)) ((fun j9 => rd_nAI (k := 14) (n := 12) hq_426 (mem_old hm_391) ((fun j9 => rd_nAI (k := 13) (n := 768000) hq_423 hm_391 (hz_394 j9)) j9)) j9))
  have hm_482 : q_342 ∈ hL S_433 := by rw [eS_434]; exact (mem_old (mem_old (mem_old hm_395)))
  have hk_483 : Kd S_433 q_342 13 := by rw [eS_434]; exact (kd_nA (k := 14) (n := 12) hq_430 (mem_old (mem_old hm_395)) (kd_nA (k := 14) (n := 12) hq_426 (mem_old hm_395) (kd_nA (k := 13) (n := 768000) hq_423 hm_395 hk_396)))
  have hn_484 : Ln S_433 q_342 64000 := by rw [eS_434]; exact (ln_nA (k := 14) hq_430 (mem_old (mem_old hm_395)) (ln_nA (k := 14) hq_426 (mem_old hm_395) (ln_nA (k := 13) hq_423 hm_395 hn_397)))
  have hz_485 : ∀ j, aI S_433 q_342 j = 0 := by rw [eS_434]; exact (fun j9 => rd_nAI (k := 14) (n := 12) hq_430 (mem_old (mem_old hm_395)) ((fun j9 => rd_nAI (k := 14) (n := 12) hq_426 (mem_old hm_395) ((fun j9 => rd_nAI (k := 13) (n := 768000) hq_423 hm_395 (hz_398 j9)) j9)) j9))
  have hm_486 : q_8 ∈ hL S_433 := by rw [eS_434]; exact (mem_old (mem_old (mem_old hm_399)))
  have hk_487 : Kd S_433 q_8 17 := by rw [eS_434]; exact (kd_nA (k := 14) (n := 12) hq_430 (mem_old (mem_old hm_399)) (kd_nA (k := 14) (n := 12) hq_426 (mem_old hm_399) (kd_nA (k := 13) (n := 768000) hq_423 hm_399 hk_400)))
  have hn_488 : Ln S_433 q_8 17 := by rw [eS_434]; exact (ln_nA (k := 14) hq_430 (mem_old (mem_old hm_399)) (ln_nA (k := 14) hq_426 (mem_old hm_399) (ln_nA (k := 13) hq_423 hm_399 hn_401)))
  have hz_489 : ∀ j, aI S_433 q_8 j = 0 := by rw [eS_434]; exact (fun j9 => rd_nAI (k := 14) (n := 12) hq_430 (mem_old (mem_old hm_399)) ((fun j9 => rd_nAI (k := 14) (n := 12) hq_426 (mem_old hm_399) ((fun j9 => rd_nAI (k := 13) (n := 768000) hq_423 hm_399 (hz_402 j9)) j9)) j9))
  have hm_490 : q_97 ∈ hL S_433 := by rw [eS_434]; exact (mem_old (mem_old (mem_old hm_403)))
  have hk_491 : Kd S_433 q_97 17 := by rw [eS_434]; exact (kd_nA (k := 14) (n := 12) hq_430 (mem_old (mem_old hm_403)) (kd_nA (k := 14) (n := 12) hq_426 (mem_old hm_403) (kd_nA (k := 13) (n := 768000) hq_423 hm_403 hk_404)))
  have hn_492 : Ln S_433 q_97 16 := by rw [eS_434]; exact (ln_nA (k := 14) hq_430 (mem_old (mem_old hm_403)) (ln_nA (k := 14) hq_426 (mem_old hm_403) (ln_nA (k := 13) hq_423 hm_403 hn_405)))
  have hz_493 : ∀ j, aI S_433 q_97 j = 0 := by rw [eS_434]; exact (fun j9 => rd_nAI (k := 14) (n := 12) hq_430 (mem_old (mem_old hm_403)) ((fun j9 => rd_nAI (k := 14) (n := 12) hq_426 (mem_old hm_403) ((fun j9 => rd_nAI (k := 13) (n := 768000) hq_423 hm_403 (hz_406 j9)) j9)) j9))
  have hv_494 : hR S_433 1202 h = (some q_8) := by rw [eS_434]; exact (rd_sRf (S := (nA (sR (nA (sR (nA S_346 q_422 13 768000) 1237 h (some q_422)) q_425 14 12) 1238 h (some q_425)) q_429 14 12)) (g := 1239) (a := h) (v := (some q_429)) (by decide) (rd_sRf (S := (nA (sR (nA S_346 q_422 13 768000) 1237 h (some q_422)) q_425 14 12)) (g := 1238) (a := h) (v := (some q_425)) (by decide) (rd_sRf (S := (nA S_346 q_422 13 768000)) (g := 1237) (a := h) (v := (some q_422)) (by decide) hv_407)))
  have hv_495 : hR S_433 1203 h = (some q_23) := by rw [eS_434]; exact (rd_sRf (S := (nA (sR (nA (sR (nA S_346 q_422 13 768000) 1237 h (some q_422)) q_425 14 12) 1238 h (some q_425)) q_429 14 12)) (g := 1239) (a := h) (v := (some q_429)) (by decide) (rd_sRf (S := (nA (sR (nA S_346 q_422 13 768000) 1237 h (some q_422)) q_425 14 12)) (g := 1238) (a := h) (v := (some q_425)) (by decide) (rd_sRf (S := (nA S_346 q_422 13 768000)) (g := 1237) (a := h) (v := (some q_422)) (by decide) hv_408)))
  have hv_496 : hR S_433 1204 h = (some q_26) := by rw [eS_434]; exact (rd_sRf (S := (nA (sR (nA (sR (nA S_346 q_422 13 768000) 1237 h (some q_422)) q_425 14 12) 1238 h (some q_425)) q_429 14 12)) (g := 1239) (a := h) (v := (some q_429)) (by decide) (rd_sRf (S := (nA (sR (nA S_346 q_422 13 768000) 1237 h (some q_422)) q_425 14 12)) (g := 1238) (a := h) (v := (some q_425)) (by decide) (rd_sRf (S := (nA S_346 q_422 13 768000)) (g := 1237) (a := h) (v := (some q_422)) (by decide) hv_409)))
  have hv_497 : hR S_433 1205 h = (some q_30) := by rw [eS_434]; exact (rd_sRf (S := (nA (sR (nA (sR (nA S_346 q_422 13 768000) 1237 h (some q_422)) q_425 14 12) 1238 h (some q_425)) q_429 14 12)) (g := 1239) (a := h) (v := (some q_429)) (by decide) (rd_sRf (S := (nA (sR (nA S_346 q_422 13 768000) 1237 h (some q_422)) q_425 14 12)) (g := 1238) (a := h) (v := (some q_425)) (by decide) (rd_sRf (S := (nA S_346 q_422 13 768000)) (g := 1237) (a := h) (v := (some q_422)) (by decide) hv_410)))
  have hv_498 : hR S_433 1210 h = (some q_97) := by rw [eS_434]; exact (rd_sRf (S := (nA (sR (nA (sR (nA S_346 q_422 13 768000) 1237 h (some q_422)) q_425 14 12) 1238 h (some q_425)) q_429 14 12)) (g := 1239) (a := h) (v := (some q_429)) (by decide) (rd_sRf (S := (nA (sR (nA S_346 q_422 13 768000) 1237 h (some q_422)) q_425 14 12)) (g := 1238) (a := h) (v := (some q_425)) (by decide) (rd_sRf (S := (nA S_346 q_422 13 768000)) (g := 1237) (a := h) (v := (some q_422)) (by decide) hv_411)))
  have hv_499 : hR S_433 1211 h = (some q_100) := by rw [eS_434]; exact (rd_sRf (S := (nA (sR (nA (sR (nA S_346 q_422 13 768000) 1237 h (some q_422)) q_425 14 12) 1238 h (some q_425)) q_429 14 12)) (g := 1239) (a := h) (v := (some q_429)) (by decide) (rd_sRf (S := (nA (sR (nA S_346 q_422 13 768000) 1237 h (some q_422)) q_425 14 12)) (g := 1238) (a := h) (v := (some q_425)) (by decide) (rd_sRf (S := (nA S_346 q_422 13 768000)) (g := 1237) (a := h) (v := (some q_422)) (by decide) hv_412)))
  have hv_500 : hR S_433 1215 h = (some q_151) := by rw [eS_434]; exact (rd_sRf (S := (nA (sR (nA (sR (nA S_346 q_422 13 768000) 1237 h (some q_422)) q_425 14 12) 1238 h (some q_425)) q_429 14 12)) (g := 1239) (a := h) (v := (some q_429)) (by decide) (rd_sRf (S := (nA (sR (nA S_346 q_422 13 768000) 1237 h (some q_422)) q_425 14 12)) (g := 1238) (a := h) (v := (some q_425)) (by decide) (rd_sRf (S := (nA S_346 q_422 13 768000)) (g := 1237) (a := h) (v := (some q_422)) (by decide) hv_413)))
  have hv_501 : hR S_433 1216 h = (some q_196) := by rw [eS_434]; exact (rd_sRf (S := (nA (sR (nA (sR (nA S_346 q_422 13 768000) 1237 h (some q_422)) q_425 14 12) 1238 h (some q_425)) q_429 14 12)) (g := 1239) (a := h) (v := (some q_429)) (by decide) (rd_sRf (S := (nA (sR (nA S_346 q_422 13 768000) 1237 h (some q_422)) q_425 14 12)) (g := 1238) (a := h) (v := (some q_425)) (by decide) (rd_sRf (S := (nA S_346 q_422 13 768000)) (g := 1237) (a := h) (v := (some q_422)) (by decide) hv_414)))
  have hv_502 : hR S_433 1217 h = (some q_199) := by rw [eS_434]; exact (rd_sRf (S := (nA (sR (nA (sR (nA S_346 q_422 13 768000) 1237 h (some q_422)) q_425 14 12) 1238 h (some q_425)) q_429 14 12)) (g := 1239) (a := h) (v := (some q_429)) (by decide) (rd_sRf (S := (nA (sR (nA S_346 q_422 13 768000) 1237 h (some q_422)) q_425 14 12)) (g := 1238) (a := h) (v := (some q_425)) (by decide) (rd_sRf (S := (nA S_346 q_422 13 768000)) (g := 1237) (a := h) (v := (some q_422)) (by decide) hv_415)))
  have hv_503 : hR S_433 1219 h = (some q_258) := by rw [eS_434]; exact (rd_sRf (S := (nA (sR (nA (sR (nA S_346 q_422 13 768000) 1237 h (some q_422)) q_425 14 12) 1238 h (some q_425)) q_429 14 12)) (g := 1239) (a := h) (v := (some q_429)) (by decide) (rd_sRf (S := (nA (sR (nA S_346 q_422 13 768000) 1237 h (some q_422)) q_425 14 12)) (g := 1238) (a := h) (v := (some q_425)) (by decide) (rd_sRf (S := (nA S_346 q_422 13 768000)) (g := 1237) (a := h) (v := (some q_422)) (by decide) hv_416)))
  have hv_504 : hR S_433 1220 h = (some q_261) := by rw [eS_434]; exact (rd_sRf (S := (nA (sR (nA (sR (nA S_346 q_422 13 768000) 1237 h (some q_422)) q_425 14 12) 1238 h (some q_425)) q_429 14 12)) (g := 1239) (a := h) (v := (some q_429)) (by decide) (rd_sRf (S := (nA (sR (nA S_346 q_422 13 768000) 1237 h (some q_422)) q_425 14 12)) (g := 1238) (a := h) (v := (some q_425)) (by decide) (rd_sRf (S := (nA S_346 q_422 13 768000)) (g := 1237) (a := h) (v := (some q_422)) (by decide) hv_417)))
  have hv_505 : hR S_433 1221 h = (some q_265) := by rw [eS_434]; exact (rd_sRf (S := (nA (sR (nA (sR (nA S_346 q_422 13 768000) 1237 h (some q_422)) q_425 14 12) 1238 h (some q_425)) q_429 14 12)) (g := 1239) (a := h) (v := (some q_429)) (by decide) (rd_sRf (S := (nA (sR (nA S_346 q_422 13 768000) 1237 h (some q_422)) q_425 14 12)) (g := 1238) (a := h) (v := (some q_425)) (by decide) (rd_sRf (S := (nA S_346 q_422 13 768000)) (g := 1237) (a := h) (v := (some q_422)) (by decide) hv_418)))
  have hv_506 : hR S_433 1223 h = (some q_335) := by rw [eS_434]; exact (rd_sRf (S := (nA (sR (nA (sR (nA S_346 q_422 13 768000) 1237 h (some q_422)) q_425 14 12) 1238 h (some q_425)) q_429 14 12)) (g := 1239) (a := h) (v := (some q_429)) (by decide) (rd_sRf (S := (nA (sR (nA S_346 q_422 13 768000) 1237 h (some q_422)) q_425 14 12)) (g := 1238) (a := h) (v := (some q_425)) (by decide) (rd_sRf (S := (nA S_346 q_422 13 768000)) (g := 1237) (a := h) (v := (some q_422)) (by decide) hv_419)))
  have hv_507 : hR S_433 1234 h = (some q_342) := by rw [eS_434]; exact (rd_sRf (S := (nA (sR (nA (sR (nA S_346 q_422 13 768000) 1237 h (some q_422)) q_425 14 12) 1238 h (some q_425)) q_429 14 12)) (g := 1239) (a := h) (v := (some q_429)) (by decide) (rd_sRf (S := (nA (sR (nA S_346 q_422 13 768000) 1237 h (some q_422)) q_425 14 12)) (g := 1238) (a := h) (v := (some q_425)) (by decide) (rd_sRf (S := (nA S_346 q_422 13 768000)) (g := 1237) (a := h) (v := (some q_422)) (by decide) hv_420)))
  have hf_508 : Fm (fun f9 b9 => (f9 = 1244 ∧ b9 = h) ∨ (f9 = 1245 ∧ b9 = h)) (fun f9 b9 => b9 = h) (fun _ => False) S S_433 := by rw [eS_434]; exact hf_435
  refine j_newB (N := 60008) C ka_byte (by decide) (by decide) (Nat.le_of_ble_eq_true rfl) (M.cells (by decide)) (M.slots (Nat.le_of_ble_eq_true rfl)) dX12_init_234 (fun q_509 hq_510 => ?_)
  have hz_511 : q_509 ∉ hL S := fun h9 => hq_510 (hf_508.mem h9)
  refine j_putrF (f := 1241) C hm9 flX12_96o (by decide) rfl rfl dX12_init_236 (mem_old hm_436) (kd_nA (k := 13) (n := 60008) hq_510 hm_436 hk_437) rfl ?_
  refine j_aload_n C dX12_init_239 rfl 0 rfl ?_
  refine j_bipush (v := 12) C dX12_init_240 (by decide) ?_
  have hf_514 : Fm (fun f9 b9 => (f9 = 1244 ∧ b9 = h) ∨ (f9 = 1245 ∧ b9 = h)) (fun f9 b9 => b9 = h) (fun _ => False) S (sR (nA S_433 q_509 13 60008) 1241 h (some q_509)) := ((hf_508.nA _ _ hq_510).sR _ (fun _ => rfl))
  refine j_newI (N := 12) C ka_int (by decide) (by decide) (Nat.le_of_ble_eq_true rfl) (M.cells (by decide)) (M.slots (Nat.le_of_ble_eq_true rfl)) dX12_init_242 (fun q_512 hq_513 => ?_)
  have hz_515 : q_512 ∉ hL S := fun h9 => hq_513 (hf_514.mem h9)
  refine j_putrF (f := 1246) C hm9 flX12_99o (by decide) rfl rfl dX12_init_244 (mem_old (mem_old hm_436)) (kd_nA (k := 14) (n := 12) hq_513 (mem_old hm_436) (kd_nA (k := 13) (n := 60008) hq_510 hm_436 hk_437)) rfl ?_
  refine j_aload_n C dX12_init_247 rfl 0 rfl ?_
  refine j_bipush (v := 20) C dX12_init_248 (by decide) ?_
  show J _ _ _ _ _ 250 _
  have hf_518 : Fm (fun f9 b9 => (f9 = 1244 ∧ b9 = h) ∨ (f9 = 1245 ∧ b9 = h)) (fun f9 b9 => b9 = h) (fun _ => False) S (sR (nA (sR (nA S_433 q_509 13 60008) 1241 h (some q_509)) q_512 14 12) 1246 h (some q_512)) := ((hf_514.nA _ _ hq_513).sR _ (fun _ => rfl))
  refine j_newI (N := 20) C ka_int (by decide) (by decide) (Nat.le_of_ble_eq_true rfl) (M.cells (by decide)) (M.slots (Nat.le_of_ble_eq_true rfl)) dX12_init_250 (fun q_516 hq_517 => ?_)
  have hz_519 : q_516 ∉ hL S := fun h9 => hq_517 (hf_518.mem h9)
  refine j_putrF (f := 1248) C hm9 flX12_102o (by decide) rfl rfl dX12_init_252 (mem_old (mem_old (mem_old hm_436))) (kd_nA (k := 14) (n := 20) hq_517 (mem_old (mem_old hm_436)) (kd_nA (k := 14) (n := 12) hq_513 (mem_old hm_436) (kd_nA (k := 13) (n := 60008) hq_510 hm_436 hk_437))) rfl ?_
  refine j_aload_n C dX12_init_255 rfl 0 rfl ?_
  refine j_bipush (v := 17) C dX12_init_256 (by decide) ?_
  have hf_522 : Fm (fun f9 b9 => (f9 = 1244 ∧ b9 = h) ∨ (f9 = 1245 ∧ b9 = h)) (fun f9 b9 => b9 = h) (fun _ => False) S (sR (nA (sR (nA (sR (nA S_433 q_509 13 60008) 1241 h (some q_509)) q_512 14 12) 1246 h (some q_512)) q_516 14 20) 1248 h (some q_516)) := ((hf_518.nA _ _ hq_517).sR _ (fun _ => rfl))
  obtain ⟨S_520, eS_521⟩ : ∃ S9 : Hp, S9 = (sR (nA (sR (nA (sR (nA S_433 q_509 13 60008) 1241 h (some q_509)) q_512 14 12) 1246 h (some q_512)) q_516 14 20) 1248 h (some q_516)) := ⟨_, rfl⟩
  refine J.eq (S' := S_520) eS_521.symm rfl rfl ?_
  have hm_523 : h ∈ hL S_520 := by rw [eS_521]; exact (mem_old (mem_old (mem_old hm_436)))
  have hk_524 : Kd S_520 h 12 := by rw [eS_521]; exact (kd_nA (k := 14) (n := 20) hq_517 (mem_old (mem_old hm_436)) (kd_nA (k := 14) (n := 12) hq_513 (mem_old hm_436) (kd_nA (k := 13) (n := 60008) hq_510 hm_436 hk_437)))
  have hm_525 : q_100 ∈ hL S_520 := by rw [eS_521]; exact (mem_old (mem_old (mem_old hm_438)))
  have hk_526 : Kd S_520 q_100 17 := by rw [eS_521]; exact (kd_nA (k := 14) (n := 20) hq_517 (mem_old (mem_old hm_438)) (kd_nA (k := 14) (n := 12) hq_513 (mem_old hm_438) (kd_nA (k := 13) (n := 60008) hq_510 hm_438 hk_439)))
  have hn_527 : Ln S_520 q_100 16 := by rw [eS_521]; exact (ln_nA (k := 14) hq_517 (mem_old (mem_old hm_438)) (ln_nA (k := 14) hq_513 (mem_old hm_438) (ln_nA (k := 13) hq_510 hm_438 hn_440)))
  have hz_528 : ∀ j, aI S_520 q_100 j = 0 := by rw [eS_521]; exact (fun j9 => rd_nAI (k := 14) (n := 20) hq_517 (mem_old (mem_old hm_438)) ((fun j9 => rd_nAI (k := 14) (n := 12) hq_513 (mem_old hm_438) ((fun j9 => rd_nAI (k := 13) (n := 60008) hq_510 hm_438 (hz_441 j9)) j9)) j9))
  have hm_529 : q_151 ∈ hL S_520 := by rw [eS_521]; exact (mem_old (mem_old (mem_old hm_442)))
  have hk_530 : Kd S_520 q_151 17 := by rw [eS_521]; exact (kd_nA (k := 14) (n := 20) hq_517 (mem_old (mem_old hm_442)) (kd_nA (k := 14) (n := 12) hq_513 (mem_old hm_442) (kd_nA (k := 13) (n := 60008) hq_510 hm_442 hk_443)))
  have hn_531 : Ln S_520 q_151 16 := by rw [eS_521]; exact (ln_nA (k := 14) hq_517 (mem_old (mem_old hm_442)) (ln_nA (k := 14) hq_513 (mem_old hm_442) (ln_nA (k := 13) hq_510 hm_442 hn_444)))
  have hz_532 : ∀ j, aI S_520 q_151 j = 0 := by rw [eS_521]; exact (fun j9 => rd_nAI (k := 14) (n := 20) hq_517 (mem_old (mem_old hm_442)) ((fun j9 => rd_nAI (k := 14) (n := 12) hq_513 (mem_old hm_442) ((fun j9 => rd_nAI (k := 13) (n := 60008) hq_510 hm_442 (hz_445 j9)) j9)) j9))
  have hm_533 : q_196 ∈ hL S_520 := by rw [eS_521]; exact (mem_old (mem_old (mem_old hm_446)))
  have hk_534 : Kd S_520 q_196 17 := by rw [eS_521]; exact (kd_nA (k := 14) (n := 20) hq_517 (mem_old (mem_old hm_446)) (kd_nA (k := 14) (n := 12) hq_513 (mem_old hm_446) (kd_nA (k := 13) (n := 60008) hq_510 hm_446 hk_447)))
  have hn_535 : Ln S_520 q_196 16 := by rw [eS_521]; exact (ln_nA (k := 14) hq_517 (mem_old (mem_old hm_446)) (ln_nA (k := 14) hq_513 (mem_old hm_446) (ln_nA (k := 13) hq_510 hm_446 hn_448)))
  have hz_536 : ∀ j, aI S_520 q_196 j = 0 := by rw [eS_521]; exact (fun j9 => rd_nAI (k := 14) (n := 20) hq_517 (mem_old (mem_old hm_446)) ((fun j9 => rd_nAI (k := 14) (n := 12) hq_513 (mem_old hm_446) ((fun j9 => rd_nAI (k := 13) (n := 60008) hq_510 hm_446 (hz_449 j9)) j9)) j9))
  have hm_537 : q_199 ∈ hL S_520 := by rw [eS_521]; exact (mem_old (mem_old (mem_old hm_450)))
  have hk_538 : Kd S_520 q_199 14 := by rw [eS_521]; exact (kd_nA (k := 14) (n := 20) hq_517 (mem_old (mem_old hm_450)) (kd_nA (k := 14) (n := 12) hq_513 (mem_old hm_450) (kd_nA (k := 13) (n := 60008) hq_510 hm_450 hk_451)))
  have hn_539 : Ln S_520 q_199 16 := by rw [eS_521]; exact (ln_nA (k := 14) hq_517 (mem_old (mem_old hm_450)) (ln_nA (k := 14) hq_513 (mem_old hm_450) (ln_nA (k := 13) hq_510 hm_450 hn_452)))
  have hz_540 : ∀ j, aI S_520 q_199 j = 0 := by rw [eS_521]; exact (fun j9 => rd_nAI (k := 14) (n := 20) hq_517 (mem_old (mem_old hm_450)) ((fun j9 => rd_nAI (k := 14) (n := 12) hq_513 (mem_old hm_450) ((fun j9 => rd_nAI (k := 13) (n := 60008) hq_510 hm_450 (hz_453 j9)) j9)) j9))
  have hm_541 : q_23 ∈ hL S_520 := by rw [eS_521]; exact (mem_old (mem_old (mem_old hm_454)))
  have hk_542 : Kd S_520 q_23 17 := by rw [eS_521]; exact (kd_nA (k := 14) (n := 20) hq_517 (mem_old (mem_old hm_454)) (kd_nA (k := 14) (n := 12) hq_513 (mem_old hm_454) (kd_nA (k := 13) (n := 60008) hq_510 hm_454 hk_455)))
  have hn_543 : Ln S_520 q_23 17 := by rw [eS_521]; exact (ln_nA (k := 14) hq_517 (mem_old (mem_old hm_454)) (ln_nA (k := 14) hq_513 (mem_old hm_454) (ln_nA (k := 13) hq_510 hm_454 hn_456)))
  have hz_544 : ∀ j, aI S_520 q_23 j = 0 := by rw [eS_521]; exact (fun j9 => rd_nAI (k := 14) (n := 20) hq_517 (mem_old (mem_old hm_454)) ((fun j9 => rd_nAI (k := 14) (n := 12) hq_513 (mem_old hm_454) ((fun j9 => rd_nAI (k := 13) (n := 60008) hq_510 hm_454 (hz_457 j9)) j9)) j9))
  have hm_545 : q_258 ∈ hL S_520 := by rw [eS_521]; exact (mem_old (mem_old (mem_old hm_458)))
  have hk_546 : Kd S_520 q_258 13 := by rw [eS_521]; exact (kd_nA (k := 14) (n := 20) hq_517 (mem_old (mem_old hm_458)) (kd_nA (k := 14) (n := 12) hq_513 (mem_old hm_458) (kd_nA (k := 13) (n := 60008) hq_510 hm_458 hk_459)))
  have hn_547 : Ln S_520 q_258 12000 := by rw [eS_521]; exact (ln_nA (k := 14) hq_517 (mem_old (mem_old hm_458)) (ln_nA (k := 14) hq_513 (mem_old hm_458) (ln_nA (k := 13) hq_510 hm_458 hn_460)))
  have hz_548 : ∀ j, aI S_520 q_258 j = 0 := by rw [eS_521]; exact (fun j9 => rd_nAI (k := 14) (n := 20) hq_517 (mem_old (mem_old hm_458)) ((fun j9 => rd_nAI (k := 14) (n := 12) hq_513 (mem_old hm_458) ((fun j9 => rd_nAI (k := 13) (n := 60008) hq_510 hm_458 (hz_461 j9)) j9)) j9))
  have hm_549 : q_26 ∈ hL S_520 := by rw [eS_521]; exact (mem_old (mem_old (mem_old hm_462)))
  have hk_550 : Kd S_520 q_26 14 := by rw [eS_521]; exact (kd_nA (k := 14) (n := 20) hq_517 (mem_old (mem_old hm_462)) (kd_nA (k := 14) (n := 12) hq_513 (mem_old hm_462) (kd_nA (k := 13) (n := 60008) hq_510 hm_462 hk_463)))
  have hn_551 : Ln S_520 q_26 119 := by rw [eS_521]; exact (ln_nA (k := 14) hq_517 (mem_old (mem_old hm_462)) (ln_nA (k := 14) hq_513 (mem_old hm_462) (ln_nA (k := 13) hq_510 hm_462 hn_464)))
  have hz_552 : ∀ j, aI S_520 q_26 j = 0 := by rw [eS_521]; exact (fun j9 => rd_nAI (k := 14) (n := 20) hq_517 (mem_old (mem_old hm_462)) ((fun j9 => rd_nAI (k := 14) (n := 12) hq_513 (mem_old hm_462) ((fun j9 => rd_nAI (k := 13) (n := 60008) hq_510 hm_462 (hz_465 j9)) j9)) j9))
  have hm_553 : q_261 ∈ hL S_520 := by rw [eS_521]; exact (mem_old (mem_old (mem_old hm_466)))
  have hk_554 : Kd S_520 q_261 14 := by rw [eS_521]; exact (kd_nA (k := 14) (n := 20) hq_517 (mem_old (mem_old hm_466)) (kd_nA (k := 14) (n := 12) hq_513 (mem_old hm_466) (kd_nA (k := 13) (n := 60008) hq_510 hm_466 hk_467)))
  have hn_555 : Ln S_520 q_261 7 := by rw [eS_521]; exact (ln_nA (k := 14) hq_517 (mem_old (mem_old hm_466)) (ln_nA (k := 14) hq_513 (mem_old hm_466) (ln_nA (k := 13) hq_510 hm_466 hn_468)))
  have hz_556 : ∀ j, aI S_520 q_261 j = 0 := by rw [eS_521]; exact (fun j9 => rd_nAI (k := 14) (n := 20) hq_517 (mem_old (mem_old hm_466)) ((fun j9 => rd_nAI (k := 14) (n := 12) hq_513 (mem_old hm_466) ((fun j9 => rd_nAI (k := 13) (n := 60008) hq_510 hm_466 (hz_469 j9)) j9)) j9))
  have hm_557 : q_265 ∈ hL S_520 := by rw [eS_521]; exact (mem_old (mem_old (mem_old hm_470)))
  have hk_558 : Kd S_520 q_265 14 := by rw [eS_521]; exact (kd_nA (k := 14) (n := 20) hq_517 (mem_old (mem_old hm_470)) (kd_nA (k := 14) (n := 12) hq_513 (mem_old hm_470) (kd_nA (k := 13) (n := 60008) hq_510 hm_470 hk_471)))
  have hn_559 : Ln S_520 q_265 6 := by rw [eS_521]; exact (ln_nA (k := 14) hq_517 (mem_old (mem_old hm_470)) (ln_nA (k := 14) hq_513 (mem_old hm_470) (ln_nA (k := 13) hq_510 hm_470 hn_472)))
  have hz_560 : ∀ j, aI S_520 q_265 j = 0 := by rw [eS_521]; exact (fun j9 => rd_nAI (k := 14) (n := 20) hq_517 (mem_old (mem_old hm_470)) ((fun j9 => rd_nAI (k := 14) (n := 12) hq_513 (mem_old hm_470) ((fun j9 => rd_nAI (k := 13) (n := 60008) hq_510 hm_470 (hz_473 j9)) j9)) j9))
  have hm_561 : q_30 ∈ hL S_520 := by rw [eS_521]; exact (mem_old (mem_old (mem_old hm_474)))
  have hk_562 : Kd S_520 q_30 14 := by rw [eS_521]; exact (kd_nA (k := 14) (n := 20) hq_517 (mem_old (mem_old hm_474)) (kd_nA (k := 14) (n := 12) hq_513 (mem_old hm_474) (kd_nA (k := 13) (n := 60008) hq_510 hm_474 hk_475)))
  have hn_563 : Ln S_520 q_30 4096 := by rw [eS_521]; exact (ln_nA (k := 14) hq_517 (mem_old (mem_old hm_474)) (ln_nA (k := 14) hq_513 (mem_old hm_474) (ln_nA (k := 13) hq_510 hm_474 hn_476)))
  have hz_564 : ∀ j, aI S_520 q_30 j = 0 := by rw [eS_521]; exact (fun j9 => rd_nAI (k := 14) (n := 20) hq_517 (mem_old (mem_old hm_474)) ((fun j9 => rd_nAI (k := 14) (n := 12) hq_513 (mem_old hm_474) ((fun j9 => rd_nAI (k := 13) (n := 60008) hq_510 hm_474 (hz_477 j9)) j9)) j9))
  have hm_565 : q_335 ∈ hL S_520 := by rw [eS_521]; exact (mem_old (mem_old (mem_old hm_478)))
  have hk_566 : Kd S_520 q_335 13 := by rw [eS_521]; exact (kd_nA (k := 14) (n := 20) hq_517 (mem_old (mem_old hm_478)) (kd_nA (k := 14) (n := 12) hq_513 (mem_old hm_478) (kd_nA (k := 13) (n := 60008) hq_510 hm_478 hk_479)))
  have hn_567 : Ln S_520 q_335 8000 := by rw [eS_521]; exact (ln_nA (k := 14) hq_517 (mem_old (mem_old hm_478)) (ln_nA (k := 14) hq_513 (mem_old hm_478) (ln_nA (k := 13) hq_510 hm_478 hn_480)))
  have hz_568 : ∀ j, aI S_520 q_335 j = 0 := by rw [eS_521]; exact (fun j9 => rd_nAI (k := 14) (n := 20) hq_517 (mem_old (mem_old hm_478)) ((fun j9 => rd_nAI (k := 14) (n := 12) hq_513 (mem_old hm_478) ((fun j9 => rd_nAI (k := 13) (n := 60008) hq_510 hm_478 (hz_481 j9)) j9)) j9))
  have hm_569 : q_342 ∈ hL S_520 := by rw [eS_521]; exact (mem_old (mem_old (mem_old hm_482)))
  have hk_570 : Kd S_520 q_342 13 := by rw [eS_521]; exact (kd_nA (k := 14) (n := 20) hq_517 (mem_old (mem_old hm_482)) (kd_nA (k := 14) (n := 12) hq_513 (mem_old hm_482) (kd_nA (k := 13) (n := 60008) hq_510 hm_482 hk_483)))
  have hn_571 : Ln S_520 q_342 64000 := by rw [eS_521]; exact (ln_nA (k := 14) hq_517 (mem_old (mem_old hm_482)) (ln_nA (k := 14) hq_513 (mem_old hm_482) (ln_nA (k := 13) hq_510 hm_482 hn_484)))
  have hz_572 : ∀ j, aI S_520 q_342 j = 0 := by rw [eS_521]; exact (fun j9 => rd_nAI (k := 14) (n := 20) hq_517 (mem_old (mem_old hm_482)) ((fun j9 => rd_nAI (k := 14) (n := 12) hq_513 (mem_old hm_482) ((fun j9 => rd_nAI (k := 13) (n := 60008) hq_510 hm_482 (hz_485 j9)) j9)) j9))
  have hm_573 : q_509 ∈ hL S_520 := by rw [eS_521]; exact (mem_old (mem_old mem_new))
  have hk_574 : Kd S_520 q_509 13 := by rw [eS_521]; exact (kd_nA (k := 14) (n := 20) hq_517 (mem_old mem_new) (kd_nA (k := 14) (n := 12) hq_513 mem_new (kd_nA' (k := 13) (n := 60008))))
  have hn_575 : Ln S_520 q_509 60008 := by rw [eS_521]; exact (ln_nA (k := 14) hq_517 (mem_old mem_new) (ln_nA (k := 14) hq_513 mem_new (ln_nA' (k := 13))))
  have hz_576 : ∀ j, aI S_520 q_509 j = 0 := by rw [eS_521]; exact (fun j9 => rd_nAI (k := 14) (n := 20) hq_517 (mem_old mem_new) ((fun j9 => rd_nAI (k := 14) (n := 12) hq_513 mem_new ((fun j9 => rd_nAI' (k := 13) (n := 60008)) j9)) j9))
  have hm_577 : q_512 ∈ hL S_520 := by rw [eS_521]; exact (mem_old mem_new)
  have hk_578 : Kd S_520 q_512 14 := by rw [eS_521]; exact (kd_nA (k := 14) (n := 20) hq_517 mem_new (kd_nA' (k := 14) (n := 12)))
  have hn_579 : Ln S_520 q_512 12 := by rw [eS_521]; exact (ln_nA (k := 14) hq_517 mem_new (ln_nA' (k := 14)))
  have hz_580 : ∀ j, aI S_520 q_512 j = 0 := by rw [eS_521]; exact (fun j9 => rd_nAI (k := 14) (n := 20) hq_517 mem_new ((fun j9 => rd_nAI' (k := 14) (n := 12)) j9))
  have hm_581 : q_8 ∈ hL S_520 := by rw [eS_521]; exact (mem_old (mem_old (mem_old hm_486)))
  have hk_582 : Kd S_520 q_8 17 := by rw [eS_521]; exact (kd_nA (k := 14) (n := 20) hq_517 (mem_old (mem_old hm_486)) (kd_nA (k := 14) (n := 12) hq_513 (mem_old hm_486) (kd_nA (k := 13) (n := 60008) hq_510 hm_486 hk_487)))
  have hn_583 : Ln S_520 q_8 17 := by rw [eS_521]; exact (ln_nA (k := 14) hq_517 (mem_old (mem_old hm_486)) (ln_nA (k := 14) hq_513 (mem_old hm_486) (ln_nA (k := 13) hq_510 hm_486 hn_488)))
  have hz_584 : ∀ j, aI S_520 q_8 j = 0 := by rw [eS_521]; exact (fun j9 => rd_nAI (k := 14) (n := 20) hq_517 (mem_old (mem_old hm_486)) ((fun j9 => rd_nAI (k := 14) (n := 12) hq_513 (mem_old hm_486) ((fun j9 => rd_nAI (k := 13) (n := 60008) hq_510 hm_486 (hz_489 j9)) j9)) j9))
  have hm_585 : q_97 ∈ hL S_520 := by rw [eS_521]; exact (mem_old (mem_old (mem_old hm_490)))
  have hk_586 : Kd S_520 q_97 17 := by rw [eS_521]; exact (kd_nA (k := 14) (n := 20) hq_517 (mem_old (mem_old hm_490)) (kd_nA (k := 14) (n := 12) hq_513 (mem_old hm_490) (kd_nA (k := 13) (n := 60008) hq_510 hm_490 hk_491)))
  have hn_587 : Ln S_520 q_97 16 := by rw [eS_521]; exact (ln_nA (k := 14) hq_517 (mem_old (mem_old hm_490)) (ln_nA (k := 14) hq_513 (mem_old hm_490) (ln_nA (k := 13) hq_510 hm_490 hn_492)))
  have hz_588 : ∀ j, aI S_520 q_97 j = 0 := by rw [eS_521]; exact (fun j9 => rd_nAI (k := 14) (n := 20) hq_517 (mem_old (mem_old hm_490)) ((fun j9 => rd_nAI (k := 14) (n := 12) hq_513 (mem_old hm_490) ((fun j9 => rd_nAI (k := 13) (n := 60008) hq_510 hm_490 (hz_493 j9)) j9)) j9))
  have hv_589 : hR S_520 1202 h = (some q_8) := by rw [eS_521]; exact (rd_sRf (S := (nA (sR (nA (sR (nA S_433 q_509 13 60008) 1241 h (some q_509)) q_512 14 12) 1246 h (some q_512)) q_516 14 20)) (g := 1248) (a := h) (v := (some q_516)) (by decide) (rd_sRf (S := (nA (sR (nA S_433 q_509 13 60008) 1241 h (some q_509)) q_512 14 12)) (g := 1246) (a := h) (v := (some q_512)) (by decide) (rd_sRf (S := (nA S_433 q_509 13 60008)) (g := 1241) (a := h) (v := (some q_509)) (by decide) hv_494)))
  have hv_590 : hR S_520 1203 h = (some q_23) := by rw [eS_521]; exact (rd_sRf (S := (nA (sR (nA (sR (nA S_433 q_509 13 60008) 1241 h (some q_509)) q_512 14 12) 1246 h (some q_512)) q_516 14 20)) (g := 1248) (a := h) (v := (some q_516)) (by decide) (rd_sRf (S := (nA (sR (nA S_433 q_509 13 60008) 1241 h (some q_509)) q_512 14 12)) (g := 1246) (a := h) (v := (some q_512)) (by decide) (rd_sRf (S := (nA S_433 q_509 13 60008)) (g := 1241) (a := h) (v := (some q_509)) (by decide) hv_495)))
  have hv_591 : hR S_520 1204 h = (some q_26) := by rw [eS_521]; exact (rd_sRf (S := (nA (sR (nA (sR (nA S_433 q_509 13 60008) 1241 h (some q_509)) q_512 14 12) 1246 h (some q_512)) q_516 14 20)) (g := 1248) (a := h) (v := (some q_516)) (by decide) (rd_sRf (S := (nA (sR (nA S_433 q_509 13 60008) 1241 h (some q_509)) q_512 14 12)) (g := 1246) (a := h) (v := (some q_512)) (by decide) (rd_sRf (S := (nA S_433 q_509 13 60008)) (g := 1241) (a := h) (v := (some q_509)) (by decide) hv_496)))
  have hv_592 : hR S_520 1205 h = (some q_30) := by rw [eS_521]; exact (rd_sRf (S := (nA (sR (nA (sR (nA S_433 q_509 13 60008) 1241 h (some q_509)) q_512 14 12) 1246 h (some q_512)) q_516 14 20)) (g := 1248) (a := h) (v := (some q_516)) (by decide) (rd_sRf (S := (nA (sR (nA S_433 q_509 13 60008) 1241 h (some q_509)) q_512 14 12)) (g := 1246) (a := h) (v := (some q_512)) (by decide) (rd_sRf (S := (nA S_433 q_509 13 60008)) (g := 1241) (a := h) (v := (some q_509)) (by decide) hv_497)))
  have hv_593 : hR S_520 1210 h = (some q_97) := by rw [eS_521]; exact (rd_sRf (S := (nA (sR (nA (sR (nA S_433 q_509 13 60008) 1241 h (some q_509)) q_512 14 12) 1246 h (some q_512)) q_516 14 20)) (g := 1248) (a := h) (v := (some q_516)) (by decide) (rd_sRf (S := (nA (sR (nA S_433 q_509 13 60008) 1241 h (some q_509)) q_512 14 12)) (g := 1246) (a := h) (v := (some q_512)) (by decide) (rd_sRf (S := (nA S_433 q_509 13 60008)) (g := 1241) (a := h) (v := (some q_509)) (by decide) hv_498)))
  have hv_594 : hR S_520 1211 h = (some q_100) := by rw [eS_521]; exact (rd_sRf (S := (nA (sR (nA (sR (nA S_433 q_509 13 60008) 1241 h (some q_509)) q_512 14 12) 1246 h (some q_512)) q_516 14 20)) (g := 1248) (a := h) (v := (some q_516)) (by decide) (rd_sRf (S := (nA (sR (nA S_433 q_509 13 60008) 1241 h (some q_509)) q_512 14 12)) (g := 1246) (a := h) (v := (some q_512)) (by decide) (rd_sRf (S := (nA S_433 q_509 13 60008)) (g := 1241) (a := h) (v := (some q_509)) (by decide) hv_499)))
  have hv_595 : hR S_520 1215 h = (some q_151) := by rw [eS_521]; exact (rd_sRf (S := (nA (sR (nA (sR (nA S_433 q_509 13 60008) 1241 h (some q_509)) q_512 14 12) 1246 h (some q_512)) q_516 14 20)) (g := 1248) (a := h) (v := (some q_516)) (by decide) (rd_sRf (S := (nA (sR (nA S_433 q_509 13 60008) 1241 h (some q_509)) q_512 14 12)) (g := 1246) (a := h) (v := (some q_512)) (by decide) (rd_sRf (S := (nA S_433 q_509 13 60008)) (g := 1241) (a := h) (v := (some q_509)) (by decide) hv_500)))
  have hv_596 : hR S_520 1216 h = (some q_196) := by rw [eS_521]; exact (rd_sRf (S := (nA (sR (nA (sR (nA S_433 q_509 13 60008) 1241 h (some q_509)) q_512 14 12) 1246 h (some q_512)) q_516 14 20)) (g := 1248) (a := h) (v := (some q_516)) (by decide) (rd_sRf (S := (nA (sR (nA S_433 q_509 13 60008) 1241 h (some q_509)) q_512 14 12)) (g := 1246) (a := h) (v := (some q_512)) (by decide) (rd_sRf (S := (nA S_433 q_509 13 60008)) (g := 1241) (a := h) (v := (some q_509)) (by decide) hv_501)))
  have hv_597 : hR S_520 1217 h = (some q_199) := by rw [eS_521]; exact (rd_sRf (S := (nA (sR (nA (sR (nA S_433 q_509 13 60008) 1241 h (some q_509)) q_512 14 12) 1246 h (some q_512)) q_516 14 20)) (g := 1248) (a := h) (v := (some q_516)) (by decide) (rd_sRf (S := (nA (sR (nA S_433 q_509 13 60008) 1241 h (some q_509)) q_512 14 12)) (g := 1246) (a := h) (v := (some q_512)) (by decide) (rd_sRf (S := (nA S_433 q_509 13 60008)) (g := 1241) (a := h) (v := (some q_509)) (by decide) hv_502)))
  have hv_598 : hR S_520 1219 h = (some q_258) := by rw [eS_521]; exact (rd_sRf (S := (nA (sR (nA (sR (nA S_433 q_509 13 60008) 1241 h (some q_509)) q_512 14 12) 1246 h (some q_512)) q_516 14 20)) (g := 1248) (a := h) (v := (some q_516)) (by decide) (rd_sRf (S := (nA (sR (nA S_433 q_509 13 60008) 1241 h (some q_509)) q_512 14 12)) (g := 1246) (a := h) (v := (some q_512)) (by decide) (rd_sRf (S := (nA S_433 q_509 13 60008)) (g := 1241) (a := h) (v := (some q_509)) (by decide) hv_503)))
  have hv_599 : hR S_520 1220 h = (some q_261) := by rw [eS_521]; exact (rd_sRf (S := (nA (sR (nA (sR (nA S_433 q_509 13 60008) 1241 h (some q_509)) q_512 14 12) 1246 h (some q_512)) q_516 14 20)) (g := 1248) (a := h) (v := (some q_516)) (by decide) (rd_sRf (S := (nA (sR (nA S_433 q_509 13 60008) 1241 h (some q_509)) q_512 14 12)) (g := 1246) (a := h) (v := (some q_512)) (by decide) (rd_sRf (S := (nA S_433 q_509 13 60008)) (g := 1241) (a := h) (v := (some q_509)) (by decide) hv_504)))
  have hv_600 : hR S_520 1221 h = (some q_265) := by rw [eS_521]; exact (rd_sRf (S := (nA (sR (nA (sR (nA S_433 q_509 13 60008) 1241 h (some q_509)) q_512 14 12) 1246 h (some q_512)) q_516 14 20)) (g := 1248) (a := h) (v := (some q_516)) (by decide) (rd_sRf (S := (nA (sR (nA S_433 q_509 13 60008) 1241 h (some q_509)) q_512 14 12)) (g := 1246) (a := h) (v := (some q_512)) (by decide) (rd_sRf (S := (nA S_433 q_509 13 60008)) (g := 1241) (a := h) (v := (some q_509)) (by decide) hv_505)))
  have hv_601 : hR S_520 1223 h = (some q_335) := by rw [eS_521]; exact (rd_sRf (S := (nA (sR (nA (sR (nA S_433 q_509 13 60008) 1241 h (some q_509)) q_512 14 12) 1246 h (some q_512)) q_516 14 20)) (g := 1248) (a := h) (v := (some q_516)) (by decide) (rd_sRf (S := (nA (sR (nA S_433 q_509 13 60008) 1241 h (some q_509)) q_512 14 12)) (g := 1246) (a := h) (v := (some q_512)) (by decide) (rd_sRf (S := (nA S_433 q_509 13 60008)) (g := 1241) (a := h) (v := (some q_509)) (by decide) hv_506)))
  have hv_602 : hR S_520 1234 h = (some q_342) := by rw [eS_521]; exact (rd_sRf (S := (nA (sR (nA (sR (nA S_433 q_509 13 60008) 1241 h (some q_509)) q_512 14 12) 1246 h (some q_512)) q_516 14 20)) (g := 1248) (a := h) (v := (some q_516)) (by decide) (rd_sRf (S := (nA (sR (nA S_433 q_509 13 60008) 1241 h (some q_509)) q_512 14 12)) (g := 1246) (a := h) (v := (some q_512)) (by decide) (rd_sRf (S := (nA S_433 q_509 13 60008)) (g := 1241) (a := h) (v := (some q_509)) (by decide) hv_507)))
  have hv_603 : hR S_520 1241 h = (some q_509) := by rw [eS_521]; exact (rd_sRf (S := (nA (sR (nA (sR (nA S_433 q_509 13 60008) 1241 h (some q_509)) q_512 14 12) 1246 h (some q_512)) q_516 14 20)) (g := 1248) (a := h) (v := (some q_516)) (by decide) (rd_sRf (S := (nA (sR (nA S_433 q_509 13 60008) 1241 h (some q_509)) q_512 14 12)) (g := 1246) (a := h) (v := (some q_512)) (by decide) (rd_sR (S := (nA S_433 q_509 13 60008)) (g := 1241) (a := h) (v := (some q_509)))))
  have hv_604 : hR S_520 1246 h = (some q_512) := by rw [eS_521]; exact (rd_sRf (S := (nA (sR (nA (sR (nA S_433 q_509 13 60008) 1241 h (some q_509)) q_512 14 12) 1246 h (some q_512)) q_516 14 20)) (g := 1248) (a := h) (v := (some q_516)) (by decide) (rd_sR (S := (nA (sR (nA S_433 q_509 13 60008) 1241 h (some q_509)) q_512 14 12)) (g := 1246) (a := h) (v := (some q_512))))
  have hf_605 : Fm (fun f9 b9 => (f9 = 1244 ∧ b9 = h) ∨ (f9 = 1245 ∧ b9 = h)) (fun f9 b9 => b9 = h) (fun _ => False) S S_520 := by rw [eS_521]; exact hf_522
  refine j_newZ (N := 17) C ka_boolean (by decide) (by decide) (Nat.le_of_ble_eq_true rfl) (M.cells (by decide)) (M.slots (Nat.le_of_ble_eq_true rfl)) dX12_init_258 (fun q_606 hq_607 => ?_)
  have hz_608 : q_606 ∉ hL S := fun h9 => hq_607 (hf_605.mem h9)
  refine j_putrF (f := 1250) C hm9 flX12_105o (by decide) rfl rfl dX12_init_260 (mem_old hm_523) (kd_nA (k := 17) (n := 17) hq_607 hm_523 hk_524) rfl ?_
  refine j_aload_n C dX12_init_263 rfl 0 rfl ?_
  refine j_sipush (v := 148) C dX12_init_264 (by decide) ?_
  show J _ _ _ _ _ 267 _
  have hf_611 : Fm (fun f9 b9 => (f9 = 1244 ∧ b9 = h) ∨ (f9 = 1245 ∧ b9 = h)) (fun f9 b9 => b9 = h) (fun _ => False) S (sR (nA S_520 q_606 17 17) 1250 h (some q_606)) := ((hf_605.nA _ _ hq_607).sR _ (fun _ => rfl))
  refine j_newI (N := 148) C ka_int (by decide) (by decide) (Nat.le_of_ble_eq_true rfl) (M.cells (by decide)) (M.slots (Nat.le_of_ble_eq_true rfl)) dX12_init_267 (fun q_609 hq_610 => ?_)
  have hz_612 : q_609 ∉ hL S := fun h9 => hq_610 (hf_611.mem h9)
  refine j_putrF (f := 1256) C hm9 flX12_108o (by decide) rfl rfl dX12_init_269 (mem_old (mem_old hm_523)) (kd_nA (k := 14) (n := 148) hq_610 (mem_old hm_523) (kd_nA (k := 17) (n := 17) hq_607 hm_523 hk_524)) rfl ?_
  refine j_aload_n C dX12_init_272 rfl 0 rfl ?_
  refine j_sipush (v := 148) C dX12_init_273 (by decide) ?_
  have hf_615 : Fm (fun f9 b9 => (f9 = 1244 ∧ b9 = h) ∨ (f9 = 1245 ∧ b9 = h)) (fun f9 b9 => b9 = h) (fun _ => False) S (sR (nA (sR (nA S_520 q_606 17 17) 1250 h (some q_606)) q_609 14 148) 1256 h (some q_609)) := ((hf_611.nA _ _ hq_610).sR _ (fun _ => rfl))
  refine j_newI (N := 148) C ka_int (by decide) (by decide) (Nat.le_of_ble_eq_true rfl) (M.cells (by decide)) (M.slots (Nat.le_of_ble_eq_true rfl)) dX12_init_276 (fun q_613 hq_614 => ?_)
  have hz_616 : q_613 ∉ hL S := fun h9 => hq_614 (hf_615.mem h9)
  refine j_putrF (f := 1257) C hm9 flX12_111o (by decide) rfl rfl dX12_init_278 (mem_old (mem_old (mem_old hm_523))) (kd_nA (k := 14) (n := 148) hq_614 (mem_old (mem_old hm_523)) (kd_nA (k := 14) (n := 148) hq_610 (mem_old hm_523) (kd_nA (k := 17) (n := 17) hq_607 hm_523 hk_524))) rfl ?_
  refine j_aload_n C dX12_init_281 rfl 0 rfl ?_
  refine j_sipush (v := 640) C dX12_init_282 (by decide) ?_
  show J _ _ _ _ _ 285 _
  have hf_619 : Fm (fun f9 b9 => (f9 = 1244 ∧ b9 = h) ∨ (f9 = 1245 ∧ b9 = h)) (fun f9 b9 => b9 = h) (fun _ => False) S (sR (nA (sR (nA (sR (nA S_520 q_606 17 17) 1250 h (some q_606)) q_609 14 148) 1256 h (some q_609)) q_613 14 148) 1257 h (some q_613)) := ((hf_615.nA _ _ hq_614).sR _ (fun _ => rfl))
  obtain ⟨S_617, eS_618⟩ : ∃ S9 : Hp, S9 = (sR (nA (sR (nA (sR (nA S_520 q_606 17 17) 1250 h (some q_606)) q_609 14 148) 1256 h (some q_609)) q_613 14 148) 1257 h (some q_613)) := ⟨_, rfl⟩
  refine J.eq (S' := S_617) eS_618.symm rfl rfl ?_
  have hm_620 : h ∈ hL S_617 := by rw [eS_618]; exact (mem_old (mem_old (mem_old hm_523)))
  have hk_621 : Kd S_617 h 12 := by rw [eS_618]; exact (kd_nA (k := 14) (n := 148) hq_614 (mem_old (mem_old hm_523)) (kd_nA (k := 14) (n := 148) hq_610 (mem_old hm_523) (kd_nA (k := 17) (n := 17) hq_607 hm_523 hk_524)))
  have hm_622 : q_100 ∈ hL S_617 := by rw [eS_618]; exact (mem_old (mem_old (mem_old hm_525)))
  have hk_623 : Kd S_617 q_100 17 := by rw [eS_618]; exact (kd_nA (k := 14) (n := 148) hq_614 (mem_old (mem_old hm_525)) (kd_nA (k := 14) (n := 148) hq_610 (mem_old hm_525) (kd_nA (k := 17) (n := 17) hq_607 hm_525 hk_526)))
  have hn_624 : Ln S_617 q_100 16 := by rw [eS_618]; exact (ln_nA (k := 14) hq_614 (mem_old (mem_old hm_525)) (ln_nA (k := 14) hq_610 (mem_old hm_525) (ln_nA (k := 17) hq_607 hm_525 hn_527)))
  have hz_625 : ∀ j, aI S_617 q_100 j = 0 := by rw [eS_618]; exact (fun j9 => rd_nAI (k := 14) (n := 148) hq_614 (mem_old (mem_old hm_525)) ((fun j9 => rd_nAI (k := 14) (n := 148) hq_610 (mem_old hm_525) ((fun j9 => rd_nAI (k := 17) (n := 17) hq_607 hm_525 (hz_528 j9)) j9)) j9))
  have hm_626 : q_151 ∈ hL S_617 := by rw [eS_618]; exact (mem_old (mem_old (mem_old hm_529)))
  have hk_627 : Kd S_617 q_151 17 := by rw [eS_618]; exact (kd_nA (k := 14) (n := 148) hq_614 (mem_old (mem_old hm_529)) (kd_nA (k := 14) (n := 148) hq_610 (mem_old hm_529) (kd_nA (k := 17) (n := 17) hq_607 hm_529 hk_530)))
  have hn_628 : Ln S_617 q_151 16 := by rw [eS_618]; exact (ln_nA (k := 14) hq_614 (mem_old (mem_old hm_529)) (ln_nA (k := 14) hq_610 (mem_old hm_529) (ln_nA (k := 17) hq_607 hm_529 hn_531)))
  have hz_629 : ∀ j, aI S_617 q_151 j = 0 := by rw [eS_618]; exact (fun j9 => rd_nAI (k := 14) (n := 148) hq_614 (mem_old (mem_old hm_529)) ((fun j9 => rd_nAI (k := 14) (n := 148) hq_610 (mem_old hm_529) ((fun j9 => rd_nAI (k := 17) (n := 17) hq_607 hm_529 (hz_532 j9)) j9)) j9))
  have hm_630 : q_196 ∈ hL S_617 := by rw [eS_618]; exact (mem_old (mem_old (mem_old hm_533)))
  have hk_631 : Kd S_617 q_196 17 := by rw [eS_618]; exact (kd_nA (k := 14) (n := 148) hq_614 (mem_old (mem_old hm_533)) (kd_nA (k := 14) (n := 148) hq_610 (mem_old hm_533) (kd_nA (k := 17) (n := 17) hq_607 hm_533 hk_534)))
  have hn_632 : Ln S_617 q_196 16 := by rw [eS_618]; exact (ln_nA (k := 14) hq_614 (mem_old (mem_old hm_533)) (ln_nA (k := 14) hq_610 (mem_old hm_533) (ln_nA (k := 17) hq_607 hm_533 hn_535)))
  have hz_633 : ∀ j, aI S_617 q_196 j = 0 := by rw [eS_618]; exact (fun j9 => rd_nAI (k := 14) (n := 148) hq_614 (mem_old (mem_old hm_533)) ((fun j9 => rd_nAI (k := 14) (n := 148) hq_610 (mem_old hm_533) ((fun j9 => rd_nAI (k := 17) (n := 17) hq_607 hm_533 (hz_536 j9)) j9)) j9))
  have hm_634 : q_199 ∈ hL S_617 := by rw [eS_618]; exact (mem_old (mem_old (mem_old hm_537)))
  have hk_635 : Kd S_617 q_199 14 := by rw [eS_618]; exact (kd_nA (k := 14) (n := 148) hq_614 (mem_old (mem_old hm_537)) (kd_nA (k := 14) (n := 148) hq_610 (mem_old hm_537) (kd_nA (k := 17) (n := 17) hq_607 hm_537 hk_538)))
  have hn_636 : Ln S_617 q_199 16 := by rw [eS_618]; exact (ln_nA (k := 14) hq_614 (mem_old (mem_old hm_537)) (ln_nA (k := 14) hq_610 (mem_old hm_537) (ln_nA (k := 17) hq_607 hm_537 hn_539)))
  have hz_637 : ∀ j, aI S_617 q_199 j = 0 := by rw [eS_618]; exact (fun j9 => rd_nAI (k := 14) (n := 148) hq_614 (mem_old (mem_old hm_537)) ((fun j9 => rd_nAI (k := 14) (n := 148) hq_610 (mem_old hm_537) ((fun j9 => rd_nAI (k := 17) (n := 17) hq_607 hm_537 (hz_540 j9)) j9)) j9))
  have hm_638 : q_23 ∈ hL S_617 := by rw [eS_618]; exact (mem_old (mem_old (mem_old hm_541)))
  have hk_639 : Kd S_617 q_23 17 := by rw [eS_618]; exact (kd_nA (k := 14) (n := 148) hq_614 (mem_old (mem_old hm_541)) (kd_nA (k := 14) (n := 148) hq_610 (mem_old hm_541) (kd_nA (k := 17) (n := 17) hq_607 hm_541 hk_542)))
  have hn_640 : Ln S_617 q_23 17 := by rw [eS_618]; exact (ln_nA (k := 14) hq_614 (mem_old (mem_old hm_541)) (ln_nA (k := 14) hq_610 (mem_old hm_541) (ln_nA (k := 17) hq_607 hm_541 hn_543)))
  have hz_641 : ∀ j, aI S_617 q_23 j = 0 := by rw [eS_618]; exact (fun j9 => rd_nAI (k := 14) (n := 148) hq_614 (mem_old (mem_old hm_541)) ((fun j9 => rd_nAI (k := 14) (n := 148) hq_610 (mem_old hm_541) ((fun j9 => rd_nAI (k := 17) (n := 17) hq_607 hm_541 (hz_544 j9)) j9)) j9))
  have hm_642 : q_258 ∈ hL S_617 := by rw [eS_618]; exact (mem_old (mem_old (mem_old hm_545)))
  have hk_643 : Kd S_617 q_258 13 := by rw [eS_618]; exact (kd_nA (k := 14) (n := 148) hq_614 (mem_old (mem_old hm_545)) (kd_nA (k := 14) (n := 148) hq_610 (mem_old hm_545) (kd_nA (k := 17) (n := 17) hq_607 hm_545 hk_546)))
  have hn_644 : Ln S_617 q_258 12000 := by rw [eS_618]; exact (ln_nA (k := 14) hq_614 (mem_old (mem_old hm_545)) (ln_nA (k := 14) hq_610 (mem_old hm_545) (ln_nA (k := 17) hq_607 hm_545 hn_547)))
  have hz_645 : ∀ j, aI S_617 q_258 j = 0 := by rw [eS_618]; exact (fun j9 => rd_nAI (k := 14) (n := 148) hq_614 (mem_old (mem_old hm_545)) ((fun j9 => rd_nAI (k := 14) (n := 148) hq_610 (mem_old hm_545) ((fun j9 => rd_nAI (k := 17) (n := 17) hq_607 hm_545 (hz_548 j9)) j9)) j9))
  have hm_646 : q_26 ∈ hL S_617 := by rw [eS_618]; exact (mem_old (mem_old (mem_old hm_549)))
  have hk_647 : Kd S_617 q_26 14 := by rw [eS_618]; exact (kd_nA (k := 14) (n := 148) hq_614 (mem_old (mem_old hm_549)) (kd_nA (k := 14) (n := 148) hq_610 (mem_old hm_549) (kd_nA (k := 17) (n := 17) hq_607 hm_549 hk_550)))
  have hn_648 : Ln S_617 q_26 119 := by rw [eS_618]; exact (ln_nA (k := 14) hq_614 (mem_old (mem_old hm_549)) (ln_nA (k := 14) hq_610 (mem_old hm_549) (ln_nA (k := 17) hq_607 hm_549 hn_551)))
  have hz_649 : ∀ j, aI S_617 q_26 j = 0 := by rw [eS_618]; exact (fun j9 => rd_nAI (k := 14) (n := 148) hq_614 (mem_old (mem_old hm_549)) ((fun j9 => rd_nAI (k := 14) (n := 148) hq_610 (mem_old hm_549) ((fun j9 => rd_nAI (k := 17) (n := 17) hq_607 hm_549 (hz_552 j9)) j9)) j9))
  have hm_650 : q_261 ∈ hL S_617 := by rw [eS_618]; exact (mem_old (mem_old (mem_old hm_553)))
  have hk_651 : Kd S_617 q_261 14 := by rw [eS_618]; exact (kd_nA (k := 14) (n := 148) hq_614 (mem_old (mem_old hm_553)) (kd_nA (k := 14) (n := 148) hq_610 (mem_old hm_553) (kd_nA (k := 17) (n := 17) hq_607 hm_553 hk_554)))
  have hn_652 : Ln S_617 q_261 7 := by rw [eS_618]; exact (ln_nA (k := 14) hq_614 (mem_old (mem_old hm_553)) (ln_nA (k := 14) hq_610 (mem_old hm_553) (ln_nA (k := 17) hq_607 hm_553 hn_555)))
  have hz_653 : ∀ j, aI S_617 q_261 j = 0 := by rw [eS_618]; exact (fun j9 => rd_nAI (k := 14) (n := 148) hq_614 (mem_old (mem_old hm_553)) ((fun j9 => rd_nAI (k := 14) (n := 148) hq_610 (mem_old hm_553) ((fun j9 => rd_nAI (k := 17) (n := 17) hq_607 hm_553 (hz_556 j9)) j9)) j9))
  have hm_654 : q_265 ∈ hL S_617 := by rw [eS_618]; exact (mem_old (mem_old (mem_old hm_557)))
  have hk_655 : Kd S_617 q_265 14 := by rw [eS_618]; exact (kd_nA (k := 14) (n := 148) hq_614 (mem_old (mem_old hm_557)) (kd_nA (k := 14) (n := 148) hq_610 (mem_old hm_557) (kd_nA (k := 17) (n := 17) hq_607 hm_557 hk_558)))
  have hn_656 : Ln S_617 q_265 6 := by rw [eS_618]; exact (ln_nA (k := 14) hq_614 (mem_old (mem_old hm_557)) (ln_nA (k := 14) hq_610 (mem_old hm_557) (ln_nA (k := 17) hq_607 hm_557 hn_559)))
  have hz_657 : ∀ j, aI S_617 q_265 j = 0 := by rw [eS_618]; exact (fun j9 => rd_nAI (k := 14) (n := 148) hq_614 (mem_old (mem_old hm_557)) ((fun j9 => rd_nAI (k := 14) (n := 148) hq_610 (mem_old hm_557) ((fun j9 => rd_nAI (k := 17) (n := 17) hq_607 hm_557 (hz_560 j9)) j9)) j9))
  have hm_658 : q_30 ∈ hL S_617 := by rw [eS_618]; exact (mem_old (mem_old (mem_old hm_561)))
  have hk_659 : Kd S_617 q_30 14 := by rw [eS_618]; exact (kd_nA (k := 14) (n := 148) hq_614 (mem_old (mem_old hm_561)) (kd_nA (k := 14) (n := 148) hq_610 (mem_old hm_561) (kd_nA (k := 17) (n := 17) hq_607 hm_561 hk_562)))
  have hn_660 : Ln S_617 q_30 4096 := by rw [eS_618]; exact (ln_nA (k := 14) hq_614 (mem_old (mem_old hm_561)) (ln_nA (k := 14) hq_610 (mem_old hm_561) (ln_nA (k := 17) hq_607 hm_561 hn_563)))
  have hz_661 : ∀ j, aI S_617 q_30 j = 0 := by rw [eS_618]; exact (fun j9 => rd_nAI (k := 14) (n := 148) hq_614 (mem_old (mem_old hm_561)) ((fun j9 => rd_nAI (k := 14) (n := 148) hq_610 (mem_old hm_561) ((fun j9 => rd_nAI (k := 17) (n := 17) hq_607 hm_561 (hz_564 j9)) j9)) j9))
  have hm_662 : q_335 ∈ hL S_617 := by rw [eS_618]; exact (mem_old (mem_old (mem_old hm_565)))
  have hk_663 : Kd S_617 q_335 13 := by rw [eS_618]; exact (kd_nA (k := 14) (n := 148) hq_614 (mem_old (mem_old hm_565)) (kd_nA (k := 14) (n := 148) hq_610 (mem_old hm_565) (kd_nA (k := 17) (n := 17) hq_607 hm_565 hk_566)))
  have hn_664 : Ln S_617 q_335 8000 := by rw [eS_618]; exact (ln_nA (k := 14) hq_614 (mem_old (mem_old hm_565)) (ln_nA (k := 14) hq_610 (mem_old hm_565) (ln_nA (k := 17) hq_607 hm_565 hn_567)))
  have hz_665 : ∀ j, aI S_617 q_335 j = 0 := by rw [eS_618]; exact (fun j9 => rd_nAI (k := 14) (n := 148) hq_614 (mem_old (mem_old hm_565)) ((fun j9 => rd_nAI (k := 14) (n := 148) hq_610 (mem_old hm_565) ((fun j9 => rd_nAI (k := 17) (n := 17) hq_607 hm_565 (hz_568 j9)) j9)) j9))
  have hm_666 : q_342 ∈ hL S_617 := by rw [eS_618]; exact (mem_old (mem_old (mem_old hm_569)))
  have hk_667 : Kd S_617 q_342 13 := by rw [eS_618]; exact (kd_nA (k := 14) (n := 148) hq_614 (mem_old (mem_old hm_569)) (kd_nA (k := 14) (n := 148) hq_610 (mem_old hm_569) (kd_nA (k := 17) (n := 17) hq_607 hm_569 hk_570)))
  have hn_668 : Ln S_617 q_342 64000 := by rw [eS_618]; exact (ln_nA (k := 14) hq_614 (mem_old (mem_old hm_569)) (ln_nA (k := 14) hq_610 (mem_old hm_569) (ln_nA (k := 17) hq_607 hm_569 hn_571)))
  have hz_669 : ∀ j, aI S_617 q_342 j = 0 := by rw [eS_618]; exact (fun j9 => rd_nAI (k := 14) (n := 148) hq_614 (mem_old (mem_old hm_569)) ((fun j9 => rd_nAI (k := 14) (n := 148) hq_610 (mem_old hm_569) ((fun j9 => rd_nAI (k := 17) (n := 17) hq_607 hm_569 (hz_572 j9)) j9)) j9))
  have hm_670 : q_509 ∈ hL S_617 := by rw [eS_618]; exact (mem_old (mem_old (mem_old hm_573)))
  have hk_671 : Kd S_617 q_509 13 := by rw [eS_618]; exact (kd_nA (k := 14) (n := 148) hq_614 (mem_old (mem_old hm_573)) (kd_nA (k := 14) (n := 148) hq_610 (mem_old hm_573) (kd_nA (k := 17) (n := 17) hq_607 hm_573 hk_574)))
  have hn_672 : Ln S_617 q_509 60008 := by rw [eS_618]; exact (ln_nA (k := 14) hq_614 (mem_old (mem_old hm_573)) (ln_nA (k := 14) hq_610 (mem_old hm_573) (ln_nA (k := 17) hq_607 hm_573 hn_575)))
  have hz_673 : ∀ j, aI S_617 q_509 j = 0 := by rw [eS_618]; exact (fun j9 => rd_nAI (k := 14) (n := 148) hq_614 (mem_old (mem_old hm_573)) ((fun j9 => rd_nAI (k := 14) (n := 148) hq_610 (mem_old hm_573) ((fun j9 => rd_nAI (k := 17) (n := 17) hq_607 hm_573 (hz_576 j9)) j9)) j9))
  have hm_674 : q_512 ∈ hL S_617 := by rw [eS_618]; exact (mem_old (mem_old (mem_old hm_577)))
  have hk_675 : Kd S_617 q_512 14 := by rw [eS_618]; exact (kd_nA (k := 14) (n := 148) hq_614 (mem_old (mem_old hm_577)) (kd_nA (k := 14) (n := 148) hq_610 (mem_old hm_577) (kd_nA (k := 17) (n := 17) hq_607 hm_577 hk_578)))
  have hn_676 : Ln S_617 q_512 12 := by rw [eS_618]; exact (ln_nA (k := 14) hq_614 (mem_old (mem_old hm_577)) (ln_nA (k := 14) hq_610 (mem_old hm_577) (ln_nA (k := 17) hq_607 hm_577 hn_579)))
  have hz_677 : ∀ j, aI S_617 q_512 j = 0 := by rw [eS_618]; exact (fun j9 => rd_nAI (k := 14) (n := 148) hq_614 (mem_old (mem_old hm_577)) ((fun j9 => rd_nAI (k := 14) (n := 148) hq_610 (mem_old hm_577) ((fun j9 => rd_nAI (k := 17) (n := 17) hq_607 hm_577 (hz_580 j9)) j9)) j9))
  have hm_678 : q_609 ∈ hL S_617 := by rw [eS_618]; exact (mem_old mem_new)
  have hk_679 : Kd S_617 q_609 14 := by rw [eS_618]; exact (kd_nA (k := 14) (n := 148) hq_614 mem_new (kd_nA' (k := 14) (n := 148)))
  have hn_680 : Ln S_617 q_609 148 := by rw [eS_618]; exact (ln_nA (k := 14) hq_614 mem_new (ln_nA' (k := 14)))
  have hz_681 : ∀ j, aI S_617 q_609 j = 0 := by rw [eS_618]; exact (fun j9 => rd_nAI (k := 14) (n := 148) hq_614 mem_new ((fun j9 => rd_nAI' (k := 14) (n := 148)) j9))
  have hm_682 : q_613 ∈ hL S_617 := by rw [eS_618]; exact mem_new
  have hk_683 : Kd S_617 q_613 14 := by rw [eS_618]; exact (kd_nA' (k := 14) (n := 148))
  have hn_684 : Ln S_617 q_613 148 := by rw [eS_618]; exact (ln_nA' (k := 14))
  have hz_685 : ∀ j, aI S_617 q_613 j = 0 := by rw [eS_618]; exact (fun j9 => rd_nAI' (k := 14) (n := 148))
  have hm_686 : q_8 ∈ hL S_617 := by rw [eS_618]; exact (mem_old (mem_old (mem_old hm_581)))
  have hk_687 : Kd S_617 q_8 17 := by rw [eS_618]; exact (kd_nA (k := 14) (n := 148) hq_614 (mem_old (mem_old hm_581)) (kd_nA (k := 14) (n := 148) hq_610 (mem_old hm_581) (kd_nA (k := 17) (n := 17) hq_607 hm_581 hk_582)))
  have hn_688 : Ln S_617 q_8 17 := by rw [eS_618]; exact (ln_nA (k := 14) hq_614 (mem_old (mem_old hm_581)) (ln_nA (k := 14) hq_610 (mem_old hm_581) (ln_nA (k := 17) hq_607 hm_581 hn_583)))
  have hz_689 : ∀ j, aI S_617 q_8 j = 0 := by rw [eS_618]; exact (fun j9 => rd_nAI (k := 14) (n := 148) hq_614 (mem_old (mem_old hm_581)) ((fun j9 => rd_nAI (k := 14) (n := 148) hq_610 (mem_old hm_581) ((fun j9 => rd_nAI (k := 17) (n := 17) hq_607 hm_581 (hz_584 j9)) j9)) j9))
  have hm_690 : q_97 ∈ hL S_617 := by rw [eS_618]; exact (mem_old (mem_old (mem_old hm_585)))
  have hk_691 : Kd S_617 q_97 17 := by rw [eS_618]; exact (kd_nA (k := 14) (n := 148) hq_614 (mem_old (mem_old hm_585)) (kd_nA (k := 14) (n := 148) hq_610 (mem_old hm_585) (kd_nA (k := 17) (n := 17) hq_607 hm_585 hk_586)))
  have hn_692 : Ln S_617 q_97 16 := by rw [eS_618]; exact (ln_nA (k := 14) hq_614 (mem_old (mem_old hm_585)) (ln_nA (k := 14) hq_610 (mem_old hm_585) (ln_nA (k := 17) hq_607 hm_585 hn_587)))
  have hz_693 : ∀ j, aI S_617 q_97 j = 0 := by rw [eS_618]; exact (fun j9 => rd_nAI (k := 14) (n := 148) hq_614 (mem_old (mem_old hm_585)) ((fun j9 => rd_nAI (k := 14) (n := 148) hq_610 (mem_old hm_585) ((fun j9 => rd_nAI (k := 17) (n := 17) hq_607 hm_585 (hz_588 j9)) j9)) j9))
  have hv_694 : hR S_617 1202 h = (some q_8) := by rw [eS_618]; exact (rd_sRf (S := (nA (sR (nA (sR (nA S_520 q_606 17 17) 1250 h (some q_606)) q_609 14 148) 1256 h (some q_609)) q_613 14 148)) (g := 1257) (a := h) (v := (some q_613)) (by decide) (rd_sRf (S := (nA (sR (nA S_520 q_606 17 17) 1250 h (some q_606)) q_609 14 148)) (g := 1256) (a := h) (v := (some q_609)) (by decide) (rd_sRf (S := (nA S_520 q_606 17 17)) (g := 1250) (a := h) (v := (some q_606)) (by decide) hv_589)))
  have hv_695 : hR S_617 1203 h = (some q_23) := by rw [eS_618]; exact (rd_sRf (S := (nA (sR (nA (sR (nA S_520 q_606 17 17) 1250 h (some q_606)) q_609 14 148) 1256 h (some q_609)) q_613 14 148)) (g := 1257) (a := h) (v := (some q_613)) (by decide) (rd_sRf (S := (nA (sR (nA S_520 q_606 17 17) 1250 h (some q_606)) q_609 14 148)) (g := 1256) (a := h) (v := (some q_609)) (by decide) (rd_sRf (S := (nA S_520 q_606 17 17)) (g := 1250) (a := h) (v := (some q_606)) (by decide) hv_590)))
  have hv_696 : hR S_617 1204 h = (some q_26) := by rw [eS_618]; exact (rd_sRf (S := (nA (sR (nA (sR (nA S_520 q_606 17 17) 1250 h (some q_606)) q_609 14 148) 1256 h (some q_609)) q_613 14 148)) (g := 1257) (a := h) (v := (some q_613)) (by decide) (rd_sRf (S := (nA (sR (nA S_520 q_606 17 17) 1250 h (some q_606)) q_609 14 148)) (g := 1256) (a := h) (v := (some q_609)) (by decide) (rd_sRf (S := (nA S_520 q_606 17 17)) (g := 1250) (a := h) (v := (some q_606)) (by decide) hv_591)))
  have hv_697 : hR S_617 1205 h = (some q_30) := by rw [eS_618]; exact (rd_sRf (S := (nA (sR (nA (sR (nA S_520 q_606 17 17) 1250 h (some q_606)) q_609 14 148) 1256 h (some q_609)) q_613 14 148)) (g := 1257) (a := h) (v := (some q_613)) (by decide) (rd_sRf (S := (nA (sR (nA S_520 q_606 17 17) 1250 h (some q_606)) q_609 14 148)) (g := 1256) (a := h) (v := (some q_609)) (by decide) (rd_sRf (S := (nA S_520 q_606 17 17)) (g := 1250) (a := h) (v := (some q_606)) (by decide) hv_592)))
  have hv_698 : hR S_617 1210 h = (some q_97) := by rw [eS_618]; exact (rd_sRf (S := (nA (sR (nA (sR (nA S_520 q_606 17 17) 1250 h (some q_606)) q_609 14 148) 1256 h (some q_609)) q_613 14 148)) (g := 1257) (a := h) (v := (some q_613)) (by decide) (rd_sRf (S := (nA (sR (nA S_520 q_606 17 17) 1250 h (some q_606)) q_609 14 148)) (g := 1256) (a := h) (v := (some q_609)) (by decide) (rd_sRf (S := (nA S_520 q_606 17 17)) (g := 1250) (a := h) (v := (some q_606)) (by decide) hv_593)))
  have hv_699 : hR S_617 1211 h = (some q_100) := by rw [eS_618]; exact (rd_sRf (S := (nA (sR (nA (sR (nA S_520 q_606 17 17) 1250 h (some q_606)) q_609 14 148) 1256 h (some q_609)) q_613 14 148)) (g := 1257) (a := h) (v := (some q_613)) (by decide) (rd_sRf (S := (nA (sR (nA S_520 q_606 17 17) 1250 h (some q_606)) q_609 14 148)) (g := 1256) (a := h) (v := (some q_609)) (by decide) (rd_sRf (S := (nA S_520 q_606 17 17)) (g := 1250) (a := h) (v := (some q_606)) (by decide) hv_594)))
  have hv_700 : hR S_617 1215 h = (some q_151) := by rw [eS_618]; exact (rd_sRf (S := (nA (sR (nA (sR (nA S_520 q_606 17 17) 1250 h (some q_606)) q_609 14 148) 1256 h (some q_609)) q_613 14 148)) (g := 1257) (a := h) (v := (some q_613)) (by decide) (rd_sRf (S := (nA (sR (nA S_520 q_606 17 17) 1250 h (some q_606)) q_609 14 148)) (g := 1256) (a := h) (v := (some q_609)) (by decide) (rd_sRf (S := (nA S_520 q_606 17 17)) (g := 1250) (a := h) (v := (some q_606)) (by decide) hv_595)))
  have hv_701 : hR S_617 1216 h = (some q_196) := by rw [eS_618]; exact (rd_sRf (S := (nA (sR (nA (sR (nA S_520 q_606 17 17) 1250 h (some q_606)) q_609 14 148) 1256 h (some q_609)) q_613 14 148)) (g := 1257) (a := h) (v := (some q_613)) (by decide) (rd_sRf (S := (nA (sR (nA S_520 q_606 17 17) 1250 h (some q_606)) q_609 14 148)) (g := 1256) (a := h) (v := (some q_609)) (by decide) (rd_sRf (S := (nA S_520 q_606 17 17)) (g := 1250) (a := h) (v := (some q_606)) (by decide) hv_596)))
  have hv_702 : hR S_617 1217 h = (some q_199) := by rw [eS_618]; exact (rd_sRf (S := (nA (sR (nA (sR (nA S_520 q_606 17 17) 1250 h (some q_606)) q_609 14 148) 1256 h (some q_609)) q_613 14 148)) (g := 1257) (a := h) (v := (some q_613)) (by decide) (rd_sRf (S := (nA (sR (nA S_520 q_606 17 17) 1250 h (some q_606)) q_609 14 148)) (g := 1256) (a := h) (v := (some q_609)) (by decide) (rd_sRf (S := (nA S_520 q_606 17 17)) (g := 1250) (a := h) (v := (some q_606)) (by decide) hv_597)))
  have hv_703 : hR S_617 1219 h = (some q_258) := by rw [eS_618]; exact (rd_sRf (S := (nA (sR (nA (sR (nA S_520 q_606 17 17) 1250 h (some q_606)) q_609 14 148) 1256 h (some q_609)) q_613 14 148)) (g := 1257) (a := h) (v := (some q_613)) (by decide) (rd_sRf (S := (nA (sR (nA S_520 q_606 17 17) 1250 h (some q_606)) q_609 14 148)) (g := 1256) (a := h) (v := (some q_609)) (by decide) (rd_sRf (S := (nA S_520 q_606 17 17)) (g := 1250) (a := h) (v := (some q_606)) (by decide) hv_598)))
  have hv_704 : hR S_617 1220 h = (some q_261) := by rw [eS_618]; exact (rd_sRf (S := (nA (sR (nA (sR (nA S_520 q_606 17 17) 1250 h (some q_606)) q_609 14 148) 1256 h (some q_609)) q_613 14 148)) (g := 1257) (a := h) (v := (some q_613)) (by decide) (rd_sRf (S := (nA (sR (nA S_520 q_606 17 17) 1250 h (some q_606)) q_609 14 148)) (g := 1256) (a := h) (v := (some q_609)) (by decide) (rd_sRf (S := (nA S_520 q_606 17 17)) (g := 1250) (a := h) (v := (some q_606)) (by decide) hv_599)))
  have hv_705 : hR S_617 1221 h = (some q_265) := by rw [eS_618]; exact (rd_sRf (S := (nA (sR (nA (sR (nA S_520 q_606 17 17) 1250 h (some q_606)) q_609 14 148) 1256 h (some q_609)) q_613 14 148)) (g := 1257) (a := h) (v := (some q_613)) (by decide) (rd_sRf (S := (nA (sR (nA S_520 q_606 17 17) 1250 h (some q_606)) q_609 14 148)) (g := 1256) (a := h) (v := (some q_609)) (by decide) (rd_sRf (S := (nA S_520 q_606 17 17)) (g := 1250) (a := h) (v := (some q_606)) (by decide) hv_600)))
  have hv_706 : hR S_617 1223 h = (some q_335) := by rw [eS_618]; exact (rd_sRf (S := (nA (sR (nA (sR (nA S_520 q_606 17 17) 1250 h (some q_606)) q_609 14 148) 1256 h (some q_609)) q_613 14 148)) (g := 1257) (a := h) (v := (some q_613)) (by decide) (rd_sRf (S := (nA (sR (nA S_520 q_606 17 17) 1250 h (some q_606)) q_609 14 148)) (g := 1256) (a := h) (v := (some q_609)) (by decide) (rd_sRf (S := (nA S_520 q_606 17 17)) (g := 1250) (a := h) (v := (some q_606)) (by decide) hv_601)))
  have hv_707 : hR S_617 1234 h = (some q_342) := by rw [eS_618]; exact (rd_sRf (S := (nA (sR (nA (sR (nA S_520 q_606 17 17) 1250 h (some q_606)) q_609 14 148) 1256 h (some q_609)) q_613 14 148)) (g := 1257) (a := h) (v := (some q_613)) (by decide) (rd_sRf (S := (nA (sR (nA S_520 q_606 17 17) 1250 h (some q_606)) q_609 14 148)) (g := 1256) (a := h) (v := (some q_609)) (by decide) (rd_sRf (S := (nA S_520 q_606 17 17)) (g := 1250) (a := h) (v := (some q_606)) (by decide) hv_602)))
  have hv_708 : hR S_617 1241 h = (some q_509) := by rw [eS_618]; exact (rd_sRf (S := (nA (sR (nA (sR (nA S_520 q_606 17 17) 1250 h (some q_606)) q_609 14 148) 1256 h (some q_609)) q_613 14 148)) (g := 1257) (a := h) (v := (some q_613)) (by decide) (rd_sRf (S := (nA (sR (nA S_520 q_606 17 17) 1250 h (some q_606)) q_609 14 148)) (g := 1256) (a := h) (v := (some q_609)) (by decide) (rd_sRf (S := (nA S_520 q_606 17 17)) (g := 1250) (a := h) (v := (some q_606)) (by decide) hv_603)))
  have hv_709 : hR S_617 1246 h = (some q_512) := by rw [eS_618]; exact (rd_sRf (S := (nA (sR (nA (sR (nA S_520 q_606 17 17) 1250 h (some q_606)) q_609 14 148) 1256 h (some q_609)) q_613 14 148)) (g := 1257) (a := h) (v := (some q_613)) (by decide) (rd_sRf (S := (nA (sR (nA S_520 q_606 17 17) 1250 h (some q_606)) q_609 14 148)) (g := 1256) (a := h) (v := (some q_609)) (by decide) (rd_sRf (S := (nA S_520 q_606 17 17)) (g := 1250) (a := h) (v := (some q_606)) (by decide) hv_604)))
  have hv_710 : hR S_617 1256 h = (some q_609) := by rw [eS_618]; exact (rd_sRf (S := (nA (sR (nA (sR (nA S_520 q_606 17 17) 1250 h (some q_606)) q_609 14 148) 1256 h (some q_609)) q_613 14 148)) (g := 1257) (a := h) (v := (some q_613)) (by decide) (rd_sR (S := (nA (sR (nA S_520 q_606 17 17) 1250 h (some q_606)) q_609 14 148)) (g := 1256) (a := h) (v := (some q_609))))
  have hv_711 : hR S_617 1257 h = (some q_613) := by rw [eS_618]; exact (rd_sR (S := (nA (sR (nA (sR (nA S_520 q_606 17 17) 1250 h (some q_606)) q_609 14 148) 1256 h (some q_609)) q_613 14 148)) (g := 1257) (a := h) (v := (some q_613)))
  have hf_712 : Fm (fun f9 b9 => (f9 = 1244 ∧ b9 = h) ∨ (f9 = 1245 ∧ b9 = h)) (fun f9 b9 => b9 = h) (fun _ => False) S S_617 := by rw [eS_618]; exact hf_619
  refine j_newI (N := 640) C ka_int (by decide) (by decide) (Nat.le_of_ble_eq_true rfl) (M.cells (by decide)) (M.slots (Nat.le_of_ble_eq_true rfl)) dX12_init_285 (fun q_713 hq_714 => ?_)
  have hz_715 : q_713 ∉ hL S := fun h9 => hq_714 (hf_712.mem h9)
  refine j_putrF (f := 1258) C hm9 flX12_114o (by decide) rfl rfl dX12_init_287 (mem_old hm_620) (kd_nA (k := 14) (n := 640) hq_714 hm_620 hk_621) rfl ?_
  refine j_aload_n C dX12_init_290 rfl 0 rfl ?_
  refine j_sipush (v := 640) C dX12_init_291 (by decide) ?_
  have hf_718 : Fm (fun f9 b9 => (f9 = 1244 ∧ b9 = h) ∨ (f9 = 1245 ∧ b9 = h)) (fun f9 b9 => b9 = h) (fun _ => False) S (sR (nA S_617 q_713 14 640) 1258 h (some q_713)) := ((hf_712.nA _ _ hq_714).sR _ (fun _ => rfl))
  refine j_newI (N := 640) C ka_int (by decide) (by decide) (Nat.le_of_ble_eq_true rfl) (M.cells (by decide)) (M.slots (Nat.le_of_ble_eq_true rfl)) dX12_init_294 (fun q_716 hq_717 => ?_)
  have hz_719 : q_716 ∉ hL S := fun h9 => hq_717 (hf_718.mem h9)
  refine j_putrF (f := 1259) C hm9 flX12_117o (by decide) rfl rfl dX12_init_296 (mem_old (mem_old hm_620)) (kd_nA (k := 14) (n := 640) hq_717 (mem_old hm_620) (kd_nA (k := 14) (n := 640) hq_714 hm_620 hk_621)) rfl ?_
  refine j_aload_n C dX12_init_299 rfl 0 rfl ?_
  refine j_bipush (v := 12) C dX12_init_300 (by decide) ?_
  show J _ _ _ _ _ 302 _
  have hf_722 : Fm (fun f9 b9 => (f9 = 1244 ∧ b9 = h) ∨ (f9 = 1245 ∧ b9 = h)) (fun f9 b9 => b9 = h) (fun _ => False) S (sR (nA (sR (nA S_617 q_713 14 640) 1258 h (some q_713)) q_716 14 640) 1259 h (some q_716)) := ((hf_718.nA _ _ hq_717).sR _ (fun _ => rfl))
  refine j_newI (N := 12) C ka_int (by decide) (by decide) (Nat.le_of_ble_eq_true rfl) (M.cells (by decide)) (M.slots (Nat.le_of_ble_eq_true rfl)) dX12_init_302 (fun q_720 hq_721 => ?_)
  have hz_723 : q_720 ∉ hL S := fun h9 => hq_721 (hf_722.mem h9)
  refine j_putrF (f := 1270) C hm9 flX12_120o (by decide) rfl rfl dX12_init_304 (mem_old (mem_old (mem_old hm_620))) (kd_nA (k := 14) (n := 12) hq_721 (mem_old (mem_old hm_620)) (kd_nA (k := 14) (n := 640) hq_717 (mem_old hm_620) (kd_nA (k := 14) (n := 640) hq_714 hm_620 hk_621))) rfl ?_
  refine j_aload_n C dX12_init_307 rfl 0 rfl ?_
  refine j_sipush (v := 400) C dX12_init_308 (by decide) ?_
  have hf_726 : Fm (fun f9 b9 => (f9 = 1244 ∧ b9 = h) ∨ (f9 = 1245 ∧ b9 = h)) (fun f9 b9 => b9 = h) (fun _ => False) S (sR (nA (sR (nA (sR (nA S_617 q_713 14 640) 1258 h (some q_713)) q_716 14 640) 1259 h (some q_716)) q_720 14 12) 1270 h (some q_720)) := ((hf_722.nA _ _ hq_721).sR _ (fun _ => rfl))
  obtain ⟨S_724, eS_725⟩ : ∃ S9 : Hp, S9 = (sR (nA (sR (nA (sR (nA S_617 q_713 14 640) 1258 h (some q_713)) q_716 14 640) 1259 h (some q_716)) q_720 14 12) 1270 h (some q_720)) := ⟨_, rfl⟩
  refine J.eq (S' := S_724) eS_725.symm rfl rfl ?_
  have hm_727 : h ∈ hL S_724 := by rw [eS_725]; exact (mem_old (mem_old (mem_old hm_620)))
  have hk_728 : Kd S_724 h 12 := by rw [eS_725]; exact (kd_nA (k := 14) (n := 12) hq_721 (mem_old (mem_old hm_620)) (kd_nA (k := 14) (n := 640) hq_717 (mem_old hm_620) (kd_nA (k := 14) (n := 640) hq_714 hm_620 hk_621)))
  have hm_729 : q_100 ∈ hL S_724 := by rw [eS_725]; exact (mem_old (mem_old (mem_old hm_622)))
  have hk_730 : Kd S_724 q_100 17 := by rw [eS_725]; exact (kd_nA (k := 14) (n := 12) hq_721 (mem_old (mem_old hm_622)) (kd_nA (k := 14) (n := 640) hq_717 (mem_old hm_622) (kd_nA (k := 14) (n := 640) hq_714 hm_622 hk_623)))
  have hn_731 : Ln S_724 q_100 16 := by rw [eS_725]; exact (ln_nA (k := 14) hq_721 (mem_old (mem_old hm_622)) (ln_nA (k := 14) hq_717 (mem_old hm_622) (ln_nA (k := 14) hq_714 hm_622 hn_624)))
  have hz_732 : ∀ j, aI S_724 q_100 j = 0 := by rw [eS_725]; exact (fun j9 => rd_nAI (k := 14) (n := 12) hq_721 (mem_old (mem_old hm_622)) ((fun j9 => rd_nAI (k := 14) (n := 640) hq_717 (mem_old hm_622) ((fun j9 => rd_nAI (k := 14) (n := 640) hq_714 hm_622 (hz_625 j9)) j9)) j9))
  have hm_733 : q_151 ∈ hL S_724 := by rw [eS_725]; exact (mem_old (mem_old (mem_old hm_626)))
  have hk_734 : Kd S_724 q_151 17 := by rw [eS_725]; exact (kd_nA (k := 14) (n := 12) hq_721 (mem_old (mem_old hm_626)) (kd_nA (k := 14) (n := 640) hq_717 (mem_old hm_626) (kd_nA (k := 14) (n := 640) hq_714 hm_626 hk_627)))
  have hn_735 : Ln S_724 q_151 16 := by rw [eS_725]; exact (ln_nA (k := 14) hq_721 (mem_old (mem_old hm_626)) (ln_nA (k := 14) hq_717 (mem_old hm_626) (ln_nA (k := 14) hq_714 hm_626 hn_628)))
  have hz_736 : ∀ j, aI S_724 q_151 j = 0 := by rw [eS_725]; exact (fun j9 => rd_nAI (k := 14) (n := 12) hq_721 (mem_old (mem_old hm_626)) ((fun j9 => rd_nAI (k := 14) (n := 640) hq_717 (mem_old hm_626) ((fun j9 => rd_nAI (k := 14) (n := 640) hq_714 hm_626 (hz_629 j9)) j9)) j9))
  have hm_737 : q_196 ∈ hL S_724 := by rw [eS_725]; exact (mem_old (mem_old (mem_old hm_630)))
  have hk_738 : Kd S_724 q_196 17 := by rw [eS_725]; exact (kd_nA (k := 14) (n := 12) hq_721 (mem_old (mem_old hm_630)) (kd_nA (k := 14) (n := 640) hq_717 (mem_old hm_630) (kd_nA (k := 14) (n := 640) hq_714 hm_630 hk_631)))
  have hn_739 : Ln S_724 q_196 16 := by rw [eS_725]; exact (ln_nA (k := 14) hq_721 (mem_old (mem_old hm_630)) (ln_nA (k := 14) hq_717 (mem_old hm_630) (ln_nA (k := 14) hq_714 hm_630 hn_632)))
  have hz_740 : ∀ j, aI S_724 q_196 j = 0 := by rw [eS_725]; exact (fun j9 => rd_nAI (k := 14) (n := 12) hq_721 (mem_old (mem_old hm_630)) ((fun j9 => rd_nAI (k := 14) (n := 640) hq_717 (mem_old hm_630) ((fun j9 => rd_nAI (k := 14) (n := 640) hq_714 hm_630 (hz_633 j9)) j9)) j9))
  have hm_741 : q_199 ∈ hL S_724 := by rw [eS_725]; exact (mem_old (mem_old (mem_old hm_634)))
  have hk_742 : Kd S_724 q_199 14 := by rw [eS_725]; exact (kd_nA (k := 14) (n := 12) hq_721 (mem_old (mem_old hm_634)) (kd_nA (k := 14) (n := 640) hq_717 (mem_old hm_634) (kd_nA (k := 14) (n := 640) hq_714 hm_634 hk_635)))
  have hn_743 : Ln S_724 q_199 16 := by rw [eS_725]; exact (ln_nA (k := 14) hq_721 (mem_old (mem_old hm_634)) (ln_nA (k := 14) hq_717 (mem_old hm_634) (ln_nA (k := 14) hq_714 hm_634 hn_636)))
  have hz_744 : ∀ j, aI S_724 q_199 j = 0 := by rw [eS_725]; exact (fun j9 => rd_nAI (k := 14) (n := 12) hq_721 (mem_old (mem_old hm_634)) ((fun j9 => rd_nAI (k := 14) (n := 640) hq_717 (mem_old hm_634) ((fun j9 => rd_nAI (k := 14) (n := 640) hq_714 hm_634 (hz_637 j9)) j9)) j9))
  have hm_745 : q_23 ∈ hL S_724 := by rw [eS_725]; exact (mem_old (mem_old (mem_old hm_638)))
  have hk_746 : Kd S_724 q_23 17 := by rw [eS_725]; exact (kd_nA (k := 14) (n := 12) hq_721 (mem_old (mem_old hm_638)) (kd_nA (k := 14) (n := 640) hq_717 (mem_old hm_638) (kd_nA (k := 14) (n := 640) hq_714 hm_638 hk_639)))
  have hn_747 : Ln S_724 q_23 17 := by rw [eS_725]; exact (ln_nA (k := 14) hq_721 (mem_old (mem_old hm_638)) (ln_nA (k := 14) hq_717 (mem_old hm_638) (ln_nA (k := 14) hq_714 hm_638 hn_640)))
  have hz_748 : ∀ j, aI S_724 q_23 j = 0 := by rw [eS_725]; exact (fun j9 => rd_nAI (k := 14) (n := 12) hq_721 (mem_old (mem_old hm_638)) ((fun j9 => rd_nAI (k := 14) (n := 640) hq_717 (mem_old hm_638) ((fun j9 => rd_nAI (k := 14) (n := 640) hq_714 hm_638 (hz_641 j9)) j9)) j9))
  have hm_749 : q_258 ∈ hL S_724 := by rw [eS_725]; exact (mem_old (mem_old (mem_old hm_642)))
  have hk_750 : Kd S_724 q_258 13 := by rw [eS_725]; exact (kd_nA (k := 14) (n := 12) hq_721 (mem_old (mem_old hm_642)) (kd_nA (k := 14) (n := 640) hq_717 (mem_old hm_642) (kd_nA (k := 14) (n := 640) hq_714 hm_642 hk_643)))
  have hn_751 : Ln S_724 q_258 12000 := by rw [eS_725]; exact (ln_nA (k := 14) hq_721 (mem_old (mem_old hm_642)) (ln_nA (k := 14) hq_717 (mem_old hm_642) (ln_nA (k := 14) hq_714 hm_642 hn_644)))
  have hz_752 : ∀ j, aI S_724 q_258 j = 0 := by rw [eS_725]; exact (fun j9 => rd_nAI (k := 14) (n := 12) hq_721 (mem_old (mem_old hm_642)) ((fun j9 => rd_nAI (k := 14) (n := 640) hq_717 (mem_old hm_642) ((fun j9 => rd_nAI (k := 14) (n := 640) hq_714 hm_642 (hz_645 j9)) j9)) j9))
  have hm_753 : q_26 ∈ hL S_724 := by rw [eS_725]; exact (mem_old (mem_old (mem_old hm_646)))
  have hk_754 : Kd S_724 q_26 14 := by rw [eS_725]; exact (kd_nA (k := 14) (n := 12) hq_721 (mem_old (mem_old hm_646)) (kd_nA (k := 14) (n := 640) hq_717 (mem_old hm_646) (kd_nA (k := 14) (n := 640) hq_714 hm_646 hk_647)))
  have hn_755 : Ln S_724 q_26 119 := by rw [eS_725]; exact (ln_nA (k := 14) hq_721 (mem_old (mem_old hm_646)) (ln_nA (k := 14) hq_717 (mem_old hm_646) (ln_nA (k := 14) hq_714 hm_646 hn_648)))
  have hz_756 : ∀ j, aI S_724 q_26 j = 0 := by rw [eS_725]; exact (fun j9 => rd_nAI (k := 14) (n := 12) hq_721 (mem_old (mem_old hm_646)) ((fun j9 => rd_nAI (k := 14) (n := 640) hq_717 (mem_old hm_646) ((fun j9 => rd_nAI (k := 14) (n := 640) hq_714 hm_646 (hz_649 j9)) j9)) j9))
  have hm_757 : q_261 ∈ hL S_724 := by rw [eS_725]; exact (mem_old (mem_old (mem_old hm_650)))
  have hk_758 : Kd S_724 q_261 14 := by rw [eS_725]; exact (kd_nA (k := 14) (n := 12) hq_721 (mem_old (mem_old hm_650)) (kd_nA (k := 14) (n := 640) hq_717 (mem_old hm_650) (kd_nA (k := 14) (n := 640) hq_714 hm_650 hk_651)))
  have hn_759 : Ln S_724 q_261 7 := by rw [eS_725]; exact (ln_nA (k := 14) hq_721 (mem_old (mem_old hm_650)) (ln_nA (k := 14) hq_717 (mem_old hm_650) (ln_nA (k := 14) hq_714 hm_650 hn_652)))
  have hz_760 : ∀ j, aI S_724 q_261 j = 0 := by rw [eS_725]; exact (fun j9 => rd_nAI (k := 14) (n := 12) hq_721 (mem_old (mem_old hm_650)) ((fun j9 => rd_nAI (k := 14) (n := 640) hq_717 (mem_old hm_650) ((fun j9 => rd_nAI (k := 14) (n := 640) hq_714 hm_650 (hz_653 j9)) j9)) j9))
  have hm_761 : q_265 ∈ hL S_724 := by rw [eS_725]; exact (mem_old (mem_old (mem_old hm_654)))
  have hk_762 : Kd S_724 q_265 14 := by rw [eS_725]; exact (kd_nA (k := 14) (n := 12) hq_721 (mem_old (mem_old hm_654)) (kd_nA (k := 14) (n := 640) hq_717 (mem_old hm_654) (kd_nA (k := 14) (n := 640) hq_714 hm_654 hk_655)))
  have hn_763 : Ln S_724 q_265 6 := by rw [eS_725]; exact (ln_nA (k := 14) hq_721 (mem_old (mem_old hm_654)) (ln_nA (k := 14) hq_717 (mem_old hm_654) (ln_nA (k := 14) hq_714 hm_654 hn_656)))
  have hz_764 : ∀ j, aI S_724 q_265 j = 0 := by rw [eS_725]; exact (fun j9 => rd_nAI (k := 14) (n := 12) hq_721 (mem_old (mem_old hm_654)) ((fun j9 => rd_nAI (k := 14) (n := 640) hq_717 (mem_old hm_654) ((fun j9 => rd_nAI (k := 14) (n := 640) hq_714 hm_654 (hz_657 j9)) j9)) j9))
  have hm_765 : q_30 ∈ hL S_724 := by rw [eS_725]; exact (mem_old (mem_old (mem_old hm_658)))
  have hk_766 : Kd S_724 q_30 14 := by rw [eS_725]; exact (kd_nA (k := 14) (n := 12) hq_721 (mem_old (mem_old hm_658)) (kd_nA (k := 14) (n := 640) hq_717 (mem_old hm_658) (kd_nA (k := 14) (n := 640) hq_714 hm_658 hk_659)))
  have hn_767 : Ln S_724 q_30 4096 := by rw [eS_725]; exact (ln_nA (k := 14) hq_721 (mem_old (mem_old hm_658)) (ln_nA (k := 14) hq_717 (mem_old hm_658) (ln_nA (k := 14) hq_714 hm_658 hn_660)))
  have hz_768 : ∀ j, aI S_724 q_30 j = 0 := by rw [eS_725]; exact (fun j9 => rd_nAI (k := 14) (n := 12) hq_721 (mem_old (mem_old hm_658)) ((fun j9 => rd_nAI (k := 14) (n := 640) hq_717 (mem_old hm_658) ((fun j9 => rd_nAI (k := 14) (n := 640) hq_714 hm_658 (hz_661 j9)) j9)) j9))
  have hm_769 : q_335 ∈ hL S_724 := by rw [eS_725]; exact (mem_old (mem_old (mem_old hm_662)))
  have hk_770 : Kd S_724 q_335 13 := by rw [eS_725]; exact (kd_nA (k := 14) (n := 12) hq_721 (mem_old (mem_old hm_662)) (kd_nA (k := 14) (n := 640) hq_717 (mem_old hm_662) (kd_nA (k := 14) (n := 640) hq_714 hm_662 hk_663)))
  have hn_771 : Ln S_724 q_335 8000 := by rw [eS_725]; exact (ln_nA (k := 14) hq_721 (mem_old (mem_old hm_662)) (ln_nA (k := 14) hq_717 (mem_old hm_662) (ln_nA (k := 14) hq_714 hm_662 hn_664)))
  have hz_772 : ∀ j, aI S_724 q_335 j = 0 := by rw [eS_725]; exact (fun j9 => rd_nAI (k := 14) (n := 12) hq_721 (mem_old (mem_old hm_662)) ((fun j9 => rd_nAI (k := 14) (n := 640) hq_717 (mem_old hm_662) ((fun j9 => rd_nAI (k := 14) (n := 640) hq_714 hm_662 (hz_665 j9)) j9)) j9))
  have hm_773 : q_342 ∈ hL S_724 := by rw [eS_725]; exact (mem_old (mem_old (mem_old hm_666)))
  have hk_774 : Kd S_724 q_342 13 := by rw [eS_725]; exact (kd_nA (k := 14) (n := 12) hq_721 (mem_old (mem_old hm_666)) (kd_nA (k := 14) (n := 640) hq_717 (mem_old hm_666) (kd_nA (k := 14) (n := 640) hq_714 hm_666 hk_667)))
  have hn_775 : Ln S_724 q_342 64000 := by rw [eS_725]; exact (ln_nA (k := 14) hq_721 (mem_old (mem_old hm_666)) (ln_nA (k := 14) hq_717 (mem_old hm_666) (ln_nA (k := 14) hq_714 hm_666 hn_668)))
  have hz_776 : ∀ j, aI S_724 q_342 j = 0 := by rw [eS_725]; exact (fun j9 => rd_nAI (k := 14) (n := 12) hq_721 (mem_old (mem_old hm_666)) ((fun j9 => rd_nAI (k := 14) (n := 640) hq_717 (mem_old hm_666) ((fun j9 => rd_nAI (k := 14) (n := 640) hq_714 hm_666 (hz_669 j9)) j9)) j9))
  have hm_777 : q_509 ∈ hL S_724 := by rw [eS_725]; exact (mem_old (mem_old (mem_old hm_670)))
  have hk_778 : Kd S_724 q_509 13 := by rw [eS_725]; exact (kd_nA (k := 14) (n := 12) hq_721 (mem_old (mem_old hm_670)) (kd_nA (k := 14) (n := 640) hq_717 (mem_old hm_670) (kd_nA (k := 14) (n := 640) hq_714 hm_670 hk_671)))
  have hn_779 : Ln S_724 q_509 60008 := by rw [eS_725]; exact (ln_nA (k := 14) hq_721 (mem_old (mem_old hm_670)) (ln_nA (k := 14) hq_717 (mem_old hm_670) (ln_nA (k := 14) hq_714 hm_670 hn_672)))
  have hz_780 : ∀ j, aI S_724 q_509 j = 0 := by rw [eS_725]; exact (fun j9 => rd_nAI (k := 14) (n := 12) hq_721 (mem_old (mem_old hm_670)) ((fun j9 => rd_nAI (k := 14) (n := 640) hq_717 (mem_old hm_670) ((fun j9 => rd_nAI (k := 14) (n := 640) hq_714 hm_670 (hz_673 j9)) j9)) j9))
  have hm_781 : q_512 ∈ hL S_724 := by rw [eS_725]; exact (mem_old (mem_old (mem_old hm_674)))
  have hk_782 : Kd S_724 q_512 14 := by rw [eS_725]; exact (kd_nA (k := 14) (n := 12) hq_721 (mem_old (mem_old hm_674)) (kd_nA (k := 14) (n := 640) hq_717 (mem_old hm_674) (kd_nA (k := 14) (n := 640) hq_714 hm_674 hk_675)))
  have hn_783 : Ln S_724 q_512 12 := by rw [eS_725]; exact (ln_nA (k := 14) hq_721 (mem_old (mem_old hm_674)) (ln_nA (k := 14) hq_717 (mem_old hm_674) (ln_nA (k := 14) hq_714 hm_674 hn_676)))
  have hz_784 : ∀ j, aI S_724 q_512 j = 0 := by rw [eS_725]; exact (fun j9 => rd_nAI (k := 14) (n := 12) hq_721 (mem_old (mem_old hm_674)) ((fun j9 => rd_nAI (k := 14) (n := 640) hq_717 (mem_old hm_674) ((fun j9 => rd_nAI (k := 14) (n := 640) hq_714 hm_674 (hz_677 j9)) j9)) j9))
  have hm_785 : q_609 ∈ hL S_724 := by rw [eS_725]; exact (mem_old (mem_old (mem_old hm_678)))
  have hk_786 : Kd S_724 q_609 14 := by rw [eS_725]; exact (kd_nA (k := 14) (n := 12) hq_721 (mem_old (mem_old hm_678)) (kd_nA (k := 14) (n := 640) hq_717 (mem_old hm_678) (kd_nA (k := 14) (n := 640) hq_714 hm_678 hk_679)))
  have hn_787 : Ln S_724 q_609 148 := by rw [eS_725]; exact (ln_nA (k := 14) hq_721 (mem_old (mem_old hm_678)) (ln_nA (k := 14) hq_717 (mem_old hm_678) (ln_nA (k := 14) hq_714 hm_678 hn_680)))
  have hz_788 : ∀ j, aI S_724 q_609 j = 0 := by rw [eS_725]; exact (fun j9 => rd_nAI (k := 14) (n := 12) hq_721 (mem_old (mem_old hm_678)) ((fun j9 => rd_nAI (k := 14) (n := 640) hq_717 (mem_old hm_678) ((fun j9 => rd_nAI (k := 14) (n := 640) hq_714 hm_678 (hz_681 j9)) j9)) j9))
  have hm_789 : q_613 ∈ hL S_724 := by rw [eS_725]; exact (mem_old (mem_old (mem_old hm_682)))
  have hk_790 : Kd S_724 q_613 14 := by rw [eS_725]; exact (kd_nA (k := 14) (n := 12) hq_721 (mem_old (mem_old hm_682)) (kd_nA (k := 14) (n := 640) hq_717 (mem_old hm_682) (kd_nA (k := 14) (n := 640) hq_714 hm_682 hk_683)))
  have hn_791 : Ln S_724 q_613 148 := by rw [eS_725]; exact (ln_nA (k := 14) hq_721 (mem_old (mem_old hm_682)) (ln_nA (k := 14) hq_717 (mem_old hm_682) (ln_nA (k := 14) hq_714 hm_682 hn_684)))
  have hz_792 : ∀ j, aI S_724 q_613 j = 0 := by rw [eS_725]; exact (fun j9 => rd_nAI (k := 14) (n := 12) hq_721 (mem_old (mem_old hm_682)) ((fun j9 => rd_nAI (k := 14) (n := 640) hq_717 (mem_old hm_682) ((fun j9 => rd_nAI (k := 14) (n := 640) hq_714 hm_682 (hz_685 j9)) j9)) j9))
  have hm_793 : q_8 ∈ hL S_724 := by rw [eS_725]; exact (mem_old (mem_old (mem_old hm_686)))
  have hk_794 : Kd S_724 q_8 17 := by rw [eS_725]; exact (kd_nA (k := 14) (n := 12) hq_721 (mem_old (mem_old hm_686)) (kd_nA (k := 14) (n := 640) hq_717 (mem_old hm_686) (kd_nA (k := 14) (n := 640) hq_714 hm_686 hk_687)))
  have hn_795 : Ln S_724 q_8 17 := by rw [eS_725]; exact (ln_nA (k := 14) hq_721 (mem_old (mem_old hm_686)) (ln_nA (k := 14) hq_717 (mem_old hm_686) (ln_nA (k := 14) hq_714 hm_686 hn_688)))
  have hz_796 : ∀ j, aI S_724 q_8 j = 0 := by rw [eS_725]; exact (fun j9 => rd_nAI (k := 14) (n := 12) hq_721 (mem_old (mem_old hm_686)) ((fun j9 => rd_nAI (k := 14) (n := 640) hq_717 (mem_old hm_686) ((fun j9 => rd_nAI (k := 14) (n := 640) hq_714 hm_686 (hz_689 j9)) j9)) j9))
  have hm_797 : q_97 ∈ hL S_724 := by rw [eS_725]; exact (mem_old (mem_old (mem_old hm_690)))
  have hk_798 : Kd S_724 q_97 17 := by rw [eS_725]; exact (kd_nA (k := 14) (n := 12) hq_721 (mem_old (mem_old hm_690)) (kd_nA (k := 14) (n := 640) hq_717 (mem_old hm_690) (kd_nA (k := 14) (n := 640) hq_714 hm_690 hk_691)))
  have hn_799 : Ln S_724 q_97 16 := by rw [eS_725]; exact (ln_nA (k := 14) hq_721 (mem_old (mem_old hm_690)) (ln_nA (k := 14) hq_717 (mem_old hm_690) (ln_nA (k := 14) hq_714 hm_690 hn_692)))
  have hz_800 : ∀ j, aI S_724 q_97 j = 0 := by rw [eS_725]; exact (fun j9 => rd_nAI (k := 14) (n := 12) hq_721 (mem_old (mem_old hm_690)) ((fun j9 => rd_nAI (k := 14) (n := 640) hq_717 (mem_old hm_690) ((fun j9 => rd_nAI (k := 14) (n := 640) hq_714 hm_690 (hz_693 j9)) j9)) j9))
  have hv_801 : hR S_724 1202 h = (some q_8) := by rw [eS_725]; exact (rd_sRf (S := (nA (sR (nA (sR (nA S_617 q_713 14 640) 1258 h (some q_713)) q_716 14 640) 1259 h (some q_716)) q_720 14 12)) (g := 1270) (a := h) (v := (some q_720)) (by decide) (rd_sRf (S := (nA (sR (nA S_617 q_713 14 640) 1258 h (some q_713)) q_716 14 640)) (g := 1259) (a := h) (v := (some q_716)) (by decide) (rd_sRf (S := (nA S_617 q_713 14 640)) (g := 1258) (a := h) (v := (some q_713)) (by decide) hv_694)))
  have hv_802 : hR S_724 1203 h = (some q_23) := by rw [eS_725]; exact (rd_sRf (S := (nA (sR (nA (sR (nA S_617 q_713 14 640) 1258 h (some q_713)) q_716 14 640) 1259 h (some q_716)) q_720 14 12)) (g := 1270) (a := h) (v := (some q_720)) (by decide) (rd_sRf (S := (nA (sR (nA S_617 q_713 14 640) 1258 h (some q_713)) q_716 14 640)) (g := 1259) (a := h) (v := (some q_716)) (by decide) (rd_sRf (S := (nA S_617 q_713 14 640)) (g := 1258) (a := h) (v := (some q_713)) (by decide) hv_695)))
  have hv_803 : hR S_724 1204 h = (some q_26) := by rw [eS_725]; exact (rd_sRf (S := (nA (sR (nA (sR (nA S_617 q_713 14 640) 1258 h (some q_713)) q_716 14 640) 1259 h (some q_716)) q_720 14 12)) (g := 1270) (a := h) (v := (some q_720)) (by decide) (rd_sRf (S := (nA (sR (nA S_617 q_713 14 640) 1258 h (some q_713)) q_716 14 640)) (g := 1259) (a := h) (v := (some q_716)) (by decide) (rd_sRf (S := (nA S_617 q_713 14 640)) (g := 1258) (a := h) (v := (some q_713)) (by decide) hv_696)))
  have hv_804 : hR S_724 1205 h = (some q_30) := by rw [eS_725]; exact (rd_sRf (S := (nA (sR (nA (sR (nA S_617 q_713 14 640) 1258 h (some q_713)) q_716 14 640) 1259 h (some q_716)) q_720 14 12)) (g := 1270) (a := h) (v := (some q_720)) (by decide) (rd_sRf (S := (nA (sR (nA S_617 q_713 14 640) 1258 h (some q_713)) q_716 14 640)) (g := 1259) (a := h) (v := (some q_716)) (by decide) (rd_sRf (S := (nA S_617 q_713 14 640)) (g := 1258) (a := h) (v := (some q_713)) (by decide) hv_697)))
  have hv_805 : hR S_724 1210 h = (some q_97) := by rw [eS_725]; exact (rd_sRf (S := (nA (sR (nA (sR (nA S_617 q_713 14 640) 1258 h (some q_713)) q_716 14 640) 1259 h (some q_716)) q_720 14 12)) (g := 1270) (a := h) (v := (some q_720)) (by decide) (rd_sRf (S := (nA (sR (nA S_617 q_713 14 640) 1258 h (some q_713)) q_716 14 640)) (g := 1259) (a := h) (v := (some q_716)) (by decide) (rd_sRf (S := (nA S_617 q_713 14 640)) (g := 1258) (a := h) (v := (some q_713)) (by decide) hv_698)))
  have hv_806 : hR S_724 1211 h = (some q_100) := by rw [eS_725]; exact (rd_sRf (S := (nA (sR (nA (sR (nA S_617 q_713 14 640) 1258 h (some q_713)) q_716 14 640) 1259 h (some q_716)) q_720 14 12)) (g := 1270) (a := h) (v := (some q_720)) (by decide) (rd_sRf (S := (nA (sR (nA S_617 q_713 14 640) 1258 h (some q_713)) q_716 14 640)) (g := 1259) (a := h) (v := (some q_716)) (by decide) (rd_sRf (S := (nA S_617 q_713 14 640)) (g := 1258) (a := h) (v := (some q_713)) (by decide) hv_699)))
  have hv_807 : hR S_724 1215 h = (some q_151) := by rw [eS_725]; exact (rd_sRf (S := (nA (sR (nA (sR (nA S_617 q_713 14 640) 1258 h (some q_713)) q_716 14 640) 1259 h (some q_716)) q_720 14 12)) (g := 1270) (a := h) (v := (some q_720)) (by decide) (rd_sRf (S := (nA (sR (nA S_617 q_713 14 640) 1258 h (some q_713)) q_716 14 640)) (g := 1259) (a := h) (v := (some q_716)) (by decide) (rd_sRf (S := (nA S_617 q_713 14 640)) (g := 1258) (a := h) (v := (some q_713)) (by decide) hv_700)))
  have hv_808 : hR S_724 1216 h = (some q_196) := by rw [eS_725]; exact (rd_sRf (S := (nA (sR (nA (sR (nA S_617 q_713 14 640) 1258 h (some q_713)) q_716 14 640) 1259 h (some q_716)) q_720 14 12)) (g := 1270) (a := h) (v := (some q_720)) (by decide) (rd_sRf (S := (nA (sR (nA S_617 q_713 14 640) 1258 h (some q_713)) q_716 14 640)) (g := 1259) (a := h) (v := (some q_716)) (by decide) (rd_sRf (S := (nA S_617 q_713 14 640)) (g := 1258) (a := h) (v := (some q_713)) (by decide) hv_701)))
  have hv_809 : hR S_724 1217 h = (some q_199) := by rw [eS_725]; exact (rd_sRf (S := (nA (sR (nA (sR (nA S_617 q_713 14 640) 1258 h (some q_713)) q_716 14 640) 1259 h (some q_716)) q_720 14 12)) (g := 1270) (a := h) (v := (some q_720)) (by decide) (rd_sRf (S := (nA (sR (nA S_617 q_713 14 640) 1258 h (some q_713)) q_716 14 640)) (g := 1259) (a := h) (v := (some q_716)) (by decide) (rd_sRf (S := (nA S_617 q_713 14 640)) (g := 1258) (a := h) (v := (some q_713)) (by decide) hv_702)))
  have hv_810 : hR S_724 1219 h = (some q_258) := by rw [eS_725]; exact (rd_sRf (S := (nA (sR (nA (sR (nA S_617 q_713 14 640) 1258 h (some q_713)) q_716 14 640) 1259 h (some q_716)) q_720 14 12)) (g := 1270) (a := h) (v := (some q_720)) (by decide) (rd_sRf (S := (nA (sR (nA S_617 q_713 14 640) 1258 h (some q_713)) q_716 14 640)) (g := 1259) (a := h) (v := (some q_716)) (by decide) (rd_sRf (S := (nA S_617 q_713 14 640)) (g := 1258) (a := h) (v := (some q_713)) (by decide) hv_703)))
  have hv_811 : hR S_724 1220 h = (some q_261) := by rw [eS_725]; exact (rd_sRf (S := (nA (sR (nA (sR (nA S_617 q_713 14 640) 1258 h (some q_713)) q_716 14 640) 1259 h (some q_716)) q_720 14 12)) (g := 1270) (a := h) (v := (some q_720)) (by decide) (rd_sRf (S := (nA (sR (nA S_617 q_713 14 640) 1258 h (some q_713)) q_716 14 640)) (g := 1259) (a := h) (v := (some q_716)) (by decide) (rd_sRf (S := (nA S_617 q_713 14 640)) (g := 1258) (a := h) (v := (some q_713)) (by decide) hv_704)))
  have hv_812 : hR S_724 1221 h = (some q_265) := by rw [eS_725]; exact (rd_sRf (S := (nA (sR (nA (sR (nA S_617 q_713 14 640) 1258 h (some q_713)) q_716 14 640) 1259 h (some q_716)) q_720 14 12)) (g := 1270) (a := h) (v := (some q_720)) (by decide) (rd_sRf (S := (nA (sR (nA S_617 q_713 14 640) 1258 h (some q_713)) q_716 14 640)) (g := 1259) (a := h) (v := (some q_716)) (by decide) (rd_sRf (S := (nA S_617 q_713 14 640)) (g := 1258) (a := h) (v := (some q_713)) (by decide) hv_705)))
  have hv_813 : hR S_724 1223 h = (some q_335) := by rw [eS_725]; exact (rd_sRf (S := (nA (sR (nA (sR (nA S_617 q_713 14 640) 1258 h (some q_713)) q_716 14 640) 1259 h (some q_716)) q_720 14 12)) (g := 1270) (a := h) (v := (some q_720)) (by decide) (rd_sRf (S := (nA (sR (nA S_617 q_713 14 640) 1258 h (some q_713)) q_716 14 640)) (g := 1259) (a := h) (v := (some q_716)) (by decide) (rd_sRf (S := (nA S_617 q_713 14 640)) (g := 1258) (a := h) (v := (some q_713)) (by decide) hv_706)))
  have hv_814 : hR S_724 1234 h = (some q_342) := by rw [eS_725]; exact (rd_sRf (S := (nA (sR (nA (sR (nA S_617 q_713 14 640) 1258 h (some q_713)) q_716 14 640) 1259 h (some q_716)) q_720 14 12)) (g := 1270) (a := h) (v := (some q_720)) (by decide) (rd_sRf (S := (nA (sR (nA S_617 q_713 14 640) 1258 h (some q_713)) q_716 14 640)) (g := 1259) (a := h) (v := (some q_716)) (by decide) (rd_sRf (S := (nA S_617 q_713 14 640)) (g := 1258) (a := h) (v := (some q_713)) (by decide) hv_707)))
  have hv_815 : hR S_724 1241 h = (some q_509) := by rw [eS_725]; exact (rd_sRf (S := (nA (sR (nA (sR (nA S_617 q_713 14 640) 1258 h (some q_713)) q_716 14 640) 1259 h (some q_716)) q_720 14 12)) (g := 1270) (a := h) (v := (some q_720)) (by decide) (rd_sRf (S := (nA (sR (nA S_617 q_713 14 640) 1258 h (some q_713)) q_716 14 640)) (g := 1259) (a := h) (v := (some q_716)) (by decide) (rd_sRf (S := (nA S_617 q_713 14 640)) (g := 1258) (a := h) (v := (some q_713)) (by decide) hv_708)))
  have hv_816 : hR S_724 1246 h = (some q_512) := by rw [eS_725]; exact (rd_sRf (S := (nA (sR (nA (sR (nA S_617 q_713 14 640) 1258 h (some q_713)) q_716 14 640) 1259 h (some q_716)) q_720 14 12)) (g := 1270) (a := h) (v := (some q_720)) (by decide) (rd_sRf (S := (nA (sR (nA S_617 q_713 14 640) 1258 h (some q_713)) q_716 14 640)) (g := 1259) (a := h) (v := (some q_716)) (by decide) (rd_sRf (S := (nA S_617 q_713 14 640)) (g := 1258) (a := h) (v := (some q_713)) (by decide) hv_709)))
  have hv_817 : hR S_724 1256 h = (some q_609) := by rw [eS_725]; exact (rd_sRf (S := (nA (sR (nA (sR (nA S_617 q_713 14 640) 1258 h (some q_713)) q_716 14 640) 1259 h (some q_716)) q_720 14 12)) (g := 1270) (a := h) (v := (some q_720)) (by decide) (rd_sRf (S := (nA (sR (nA S_617 q_713 14 640) 1258 h (some q_713)) q_716 14 640)) (g := 1259) (a := h) (v := (some q_716)) (by decide) (rd_sRf (S := (nA S_617 q_713 14 640)) (g := 1258) (a := h) (v := (some q_713)) (by decide) hv_710)))
  have hv_818 : hR S_724 1257 h = (some q_613) := by rw [eS_725]; exact (rd_sRf (S := (nA (sR (nA (sR (nA S_617 q_713 14 640) 1258 h (some q_713)) q_716 14 640) 1259 h (some q_716)) q_720 14 12)) (g := 1270) (a := h) (v := (some q_720)) (by decide) (rd_sRf (S := (nA (sR (nA S_617 q_713 14 640) 1258 h (some q_713)) q_716 14 640)) (g := 1259) (a := h) (v := (some q_716)) (by decide) (rd_sRf (S := (nA S_617 q_713 14 640)) (g := 1258) (a := h) (v := (some q_713)) (by decide) hv_711)))
  have hf_819 : Fm (fun f9 b9 => (f9 = 1244 ∧ b9 = h) ∨ (f9 = 1245 ∧ b9 = h)) (fun f9 b9 => b9 = h) (fun _ => False) S S_724 := by rw [eS_725]; exact hf_726
  refine j_newI (N := 400) C ka_int (by decide) (by decide) (Nat.le_of_ble_eq_true rfl) (M.cells (by decide)) (M.slots (Nat.le_of_ble_eq_true rfl)) dX12_init_311 (fun q_820 hq_821 => ?_)
  have hz_822 : q_820 ∉ hL S := fun h9 => hq_821 (hf_819.mem h9)
  refine j_putrF (f := 1272) C hm9 flX12_123o (by decide) rfl rfl dX12_init_313 (mem_old hm_727) (kd_nA (k := 14) (n := 400) hq_821 hm_727 hk_728) rfl ?_
  refine j_aload_n C dX12_init_316 rfl 0 rfl ?_
  refine j_sipush (v := 400) C dX12_init_317 (by decide) ?_
  show J _ _ _ _ _ 320 _
  have hf_825 : Fm (fun f9 b9 => (f9 = 1244 ∧ b9 = h) ∨ (f9 = 1245 ∧ b9 = h)) (fun f9 b9 => b9 = h) (fun _ => False) S (sR (nA S_724 q_820 14 400) 1272 h (some q_820)) := ((hf_819.nA _ _ hq_821).sR _ (fun _ => rfl))
  refine j_newJ (N := 400) C ka_long (by decide) (by decide) (Nat.le_of_ble_eq_true rfl) (M.cells (by decide)) (M.slots (Nat.le_of_ble_eq_true rfl)) dX12_init_320 (fun q_823 hq_824 => ?_)
  have hz_826 : q_823 ∉ hL S := fun h9 => hq_824 (hf_825.mem h9)
  refine j_putrF (f := 1273) C hm9 flX12_126o (by decide) rfl rfl dX12_init_322 (mem_old (mem_old hm_727)) (kd_nA (k := 15) (n := 400) hq_824 (mem_old hm_727) (kd_nA (k := 14) (n := 400) hq_821 hm_727 hk_728)) rfl ?_
  refine j_aload_n C dX12_init_325 rfl 0 rfl ?_
  refine j_bipush (v := 40) C dX12_init_326 (by decide) ?_
  have hf_829 : Fm (fun f9 b9 => (f9 = 1244 ∧ b9 = h) ∨ (f9 = 1245 ∧ b9 = h)) (fun f9 b9 => b9 = h) (fun _ => False) S (sR (nA (sR (nA S_724 q_820 14 400) 1272 h (some q_820)) q_823 15 400) 1273 h (some q_823)) := ((hf_825.nA _ _ hq_824).sR _ (fun _ => rfl))
  refine j_newJ (N := 40) C ka_long (by decide) (by decide) (Nat.le_of_ble_eq_true rfl) (M.cells (by decide)) (M.slots (Nat.le_of_ble_eq_true rfl)) dX12_init_328 (fun q_827 hq_828 => ?_)
  have hz_830 : q_827 ∉ hL S := fun h9 => hq_828 (hf_829.mem h9)
  refine j_putrF (f := 1274) C hm9 flX12_130o (by decide) rfl rfl dX12_init_330 (mem_old (mem_old (mem_old hm_727))) (kd_nA (k := 15) (n := 40) hq_828 (mem_old (mem_old hm_727)) (kd_nA (k := 15) (n := 400) hq_824 (mem_old hm_727) (kd_nA (k := 14) (n := 400) hq_821 hm_727 hk_728))) rfl ?_
  refine j_aload_n C dX12_init_333 rfl 0 rfl ?_
  refine j_bipush (v := 40) C dX12_init_334 (by decide) ?_
  show J _ _ _ _ _ 336 _
  have hf_833 : Fm (fun f9 b9 => (f9 = 1244 ∧ b9 = h) ∨ (f9 = 1245 ∧ b9 = h)) (fun f9 b9 => b9 = h) (fun _ => False) S (sR (nA (sR (nA (sR (nA S_724 q_820 14 400) 1272 h (some q_820)) q_823 15 400) 1273 h (some q_823)) q_827 15 40) 1274 h (some q_827)) := ((hf_829.nA _ _ hq_828).sR _ (fun _ => rfl))
  obtain ⟨S_831, eS_832⟩ : ∃ S9 : Hp, S9 = (sR (nA (sR (nA (sR (nA S_724 q_820 14 400) 1272 h (some q_820)) q_823 15 400) 1273 h (some q_823)) q_827 15 40) 1274 h (some q_827)) := ⟨_, rfl⟩
  refine J.eq (S' := S_831) eS_832.symm rfl rfl ?_
  have hm_834 : h ∈ hL S_831 := by rw [eS_832]; exact (mem_old (mem_old (mem_old hm_727)))
  have hk_835 : Kd S_831 h 12 := by rw [eS_832]; exact (kd_nA (k := 15) (n := 40) hq_828 (mem_old (mem_old hm_727)) (kd_nA (k := 15) (n := 400) hq_824 (mem_old hm_727) (kd_nA (k := 14) (n := 400) hq_821 hm_727 hk_728)))
  have hm_836 : q_100 ∈ hL S_831 := by rw [eS_832]; exact (mem_old (mem_old (mem_old hm_729)))
  have hk_837 : Kd S_831 q_100 17 := by rw [eS_832]; exact (kd_nA (k := 15) (n := 40) hq_828 (mem_old (mem_old hm_729)) (kd_nA (k := 15) (n := 400) hq_824 (mem_old hm_729) (kd_nA (k := 14) (n := 400) hq_821 hm_729 hk_730)))
  have hn_838 : Ln S_831 q_100 16 := by rw [eS_832]; exact (ln_nA (k := 15) hq_828 (mem_old (mem_old hm_729)) (ln_nA (k := 15) hq_824 (mem_old hm_729) (ln_nA (k := 14) hq_821 hm_729 hn_731)))
  have hz_839 : ∀ j, aI S_831 q_100 j = 0 := by rw [eS_832]; exact (fun j9 => rd_nAI (k := 15) (n := 40) hq_828 (mem_old (mem_old hm_729)) ((fun j9 => rd_nAI (k := 15) (n := 400) hq_824 (mem_old hm_729) ((fun j9 => rd_nAI (k := 14) (n := 400) hq_821 hm_729 (hz_732 j9)) j9)) j9))
  have hm_840 : q_151 ∈ hL S_831 := by rw [eS_832]; exact (mem_old (mem_old (mem_old hm_733)))
  have hk_841 : Kd S_831 q_151 17 := by rw [eS_832]; exact (kd_nA (k := 15) (n := 40) hq_828 (mem_old (mem_old hm_733)) (kd_nA (k := 15) (n := 400) hq_824 (mem_old hm_733) (kd_nA (k := 14) (n := 400) hq_821 hm_733 hk_734)))
  have hn_842 : Ln S_831 q_151 16 := by rw [eS_832]; exact (ln_nA (k := 15) hq_828 (mem_old (mem_old hm_733)) (ln_nA (k := 15) hq_824 (mem_old hm_733) (ln_nA (k := 14) hq_821 hm_733 hn_735)))
  have hz_843 : ∀ j, aI S_831 q_151 j = 0 := by rw [eS_832]; exact (fun j9 => rd_nAI (k := 15) (n := 40) hq_828 (mem_old (mem_old hm_733)) ((fun j9 => rd_nAI (k := 15) (n := 400) hq_824 (mem_old hm_733) ((fun j9 => rd_nAI (k := 14) (n := 400) hq_821 hm_733 (hz_736 j9)) j9)) j9))
  have hm_844 : q_196 ∈ hL S_831 := by rw [eS_832]; exact (mem_old (mem_old (mem_old hm_737)))
  have hk_845 : Kd S_831 q_196 17 := by rw [eS_832]; exact (kd_nA (k := 15) (n := 40) hq_828 (mem_old (mem_old hm_737)) (kd_nA (k := 15) (n := 400) hq_824 (mem_old hm_737) (kd_nA (k := 14) (n := 400) hq_821 hm_737 hk_738)))
  have hn_846 : Ln S_831 q_196 16 := by rw [eS_832]; exact (ln_nA (k := 15) hq_828 (mem_old (mem_old hm_737)) (ln_nA (k := 15) hq_824 (mem_old hm_737) (ln_nA (k := 14) hq_821 hm_737 hn_739)))
  have hz_847 : ∀ j, aI S_831 q_196 j = 0 := by rw [eS_832]; exact (fun j9 => rd_nAI (k := 15) (n := 40) hq_828 (mem_old (mem_old hm_737)) ((fun j9 => rd_nAI (k := 15) (n := 400) hq_824 (mem_old hm_737) ((fun j9 => rd_nAI (k := 14) (n := 400) hq_821 hm_737 (hz_740 j9)) j9)) j9))
  have hm_848 : q_199 ∈ hL S_831 := by rw [eS_832]; exact (mem_old (mem_old (mem_old hm_741)))
  have hk_849 : Kd S_831 q_199 14 := by rw [eS_832]; exact (kd_nA (k := 15) (n := 40) hq_828 (mem_old (mem_old hm_741)) (kd_nA (k := 15) (n := 400) hq_824 (mem_old hm_741) (kd_nA (k := 14) (n := 400) hq_821 hm_741 hk_742)))
  have hn_850 : Ln S_831 q_199 16 := by rw [eS_832]; exact (ln_nA (k := 15) hq_828 (mem_old (mem_old hm_741)) (ln_nA (k := 15) hq_824 (mem_old hm_741) (ln_nA (k := 14) hq_821 hm_741 hn_743)))
  have hz_851 : ∀ j, aI S_831 q_199 j = 0 := by rw [eS_832]; exact (fun j9 => rd_nAI (k := 15) (n := 40) hq_828 (mem_old (mem_old hm_741)) ((fun j9 => rd_nAI (k := 15) (n := 400) hq_824 (mem_old hm_741) ((fun j9 => rd_nAI (k := 14) (n := 400) hq_821 hm_741 (hz_744 j9)) j9)) j9))
  have hm_852 : q_23 ∈ hL S_831 := by rw [eS_832]; exact (mem_old (mem_old (mem_old hm_745)))
  have hk_853 : Kd S_831 q_23 17 := by rw [eS_832]; exact (kd_nA (k := 15) (n := 40) hq_828 (mem_old (mem_old hm_745)) (kd_nA (k := 15) (n := 400) hq_824 (mem_old hm_745) (kd_nA (k := 14) (n := 400) hq_821 hm_745 hk_746)))
  have hn_854 : Ln S_831 q_23 17 := by rw [eS_832]; exact (ln_nA (k := 15) hq_828 (mem_old (mem_old hm_745)) (ln_nA (k := 15) hq_824 (mem_old hm_745) (ln_nA (k := 14) hq_821 hm_745 hn_747)))
  have hz_855 : ∀ j, aI S_831 q_23 j = 0 := by rw [eS_832]; exact (fun j9 => rd_nAI (k := 15) (n := 40) hq_828 (mem_old (mem_old hm_745)) ((fun j9 => rd_nAI (k := 15) (n := 400) hq_824 (mem_old hm_745) ((fun j9 => rd_nAI (k := 14) (n := 400) hq_821 hm_745 (hz_748 j9)) j9)) j9))
  have hm_856 : q_258 ∈ hL S_831 := by rw [eS_832]; exact (mem_old (mem_old (mem_old hm_749)))
  have hk_857 : Kd S_831 q_258 13 := by rw [eS_832]; exact (kd_nA (k := 15) (n := 40) hq_828 (mem_old (mem_old hm_749)) (kd_nA (k := 15) (n := 400) hq_824 (mem_old hm_749) (kd_nA (k := 14) (n := 400) hq_821 hm_749 hk_750)))
  have hn_858 : Ln S_831 q_258 12000 := by rw [eS_832]; exact (ln_nA (k := 15) hq_828 (mem_old (mem_old hm_749)) (ln_nA (k := 15) hq_824 (mem_old hm_749) (ln_nA (k := 14) hq_821 hm_749 hn_751)))
  have hz_859 : ∀ j, aI S_831 q_258 j = 0 := by rw [eS_832]; exact (fun j9 => rd_nAI (k := 15) (n := 40) hq_828 (mem_old (mem_old hm_749)) ((fun j9 => rd_nAI (k := 15) (n := 400) hq_824 (mem_old hm_749) ((fun j9 => rd_nAI (k := 14) (n := 400) hq_821 hm_749 (hz_752 j9)) j9)) j9))
  have hm_860 : q_26 ∈ hL S_831 := by rw [eS_832]; exact (mem_old (mem_old (mem_old hm_753)))
  have hk_861 : Kd S_831 q_26 14 := by rw [eS_832]; exact (kd_nA (k := 15) (n := 40) hq_828 (mem_old (mem_old hm_753)) (kd_nA (k := 15) (n := 400) hq_824 (mem_old hm_753) (kd_nA (k := 14) (n := 400) hq_821 hm_753 hk_754)))
  have hn_862 : Ln S_831 q_26 119 := by rw [eS_832]; exact (ln_nA (k := 15) hq_828 (mem_old (mem_old hm_753)) (ln_nA (k := 15) hq_824 (mem_old hm_753) (ln_nA (k := 14) hq_821 hm_753 hn_755)))
  have hz_863 : ∀ j, aI S_831 q_26 j = 0 := by rw [eS_832]; exact (fun j9 => rd_nAI (k := 15) (n := 40) hq_828 (mem_old (mem_old hm_753)) ((fun j9 => rd_nAI (k := 15) (n := 400) hq_824 (mem_old hm_753) ((fun j9 => rd_nAI (k := 14) (n := 400) hq_821 hm_753 (hz_756 j9)) j9)) j9))
  have hm_864 : q_261 ∈ hL S_831 := by rw [eS_832]; exact (mem_old (mem_old (mem_old hm_757)))
  have hk_865 : Kd S_831 q_261 14 := by rw [eS_832]; exact (kd_nA (k := 15) (n := 40) hq_828 (mem_old (mem_old hm_757)) (kd_nA (k := 15) (n := 400) hq_824 (mem_old hm_757) (kd_nA (k := 14) (n := 400) hq_821 hm_757 hk_758)))
  have hn_866 : Ln S_831 q_261 7 := by rw [eS_832]; exact (ln_nA (k := 15) hq_828 (mem_old (mem_old hm_757)) (ln_nA (k := 15) hq_824 (mem_old hm_757) (ln_nA (k := 14) hq_821 hm_757 hn_759)))
  have hz_867 : ∀ j, aI S_831 q_261 j = 0 := by rw [eS_832]; exact (fun j9 => rd_nAI (k := 15) (n := 40) hq_828 (mem_old (mem_old hm_757)) ((fun j9 => rd_nAI (k := 15) (n := 400) hq_824 (mem_old hm_757) ((fun j9 => rd_nAI (k := 14) (n := 400) hq_821 hm_757 (hz_760 j9)) j9)) j9))
  have hm_868 : q_265 ∈ hL S_831 := by rw [eS_832]; exact (mem_old (mem_old (mem_old hm_761)))
  have hk_869 : Kd S_831 q_265 14 := by rw [eS_832]; exact (kd_nA (k := 15) (n := 40) hq_828 (mem_old (mem_old hm_761)) (kd_nA (k := 15) (n := 400) hq_824 (mem_old hm_761) (kd_nA (k := 14) (n := 400) hq_821 hm_761 hk_762)))
  have hn_870 : Ln S_831 q_265 6 := by rw [eS_832]; exact (ln_nA (k := 15) hq_828 (mem_old (mem_old hm_761)) (ln_nA (k := 15) hq_824 (mem_old hm_761) (ln_nA (k := 14) hq_821 hm_761 hn_763)))
  have hz_871 : ∀ j, aI S_831 q_265 j = 0 := by rw [eS_832]; exact (fun j9 => rd_nAI (k := 15) (n := 40) hq_828 (mem_old (mem_old hm_761)) ((fun j9 => rd_nAI (k := 15) (n := 400) hq_824 (mem_old hm_761) ((fun j9 => rd_nAI (k := 14) (n := 400) hq_821 hm_761 (hz_764 j9)) j9)) j9))
  have hm_872 : q_30 ∈ hL S_831 := by rw [eS_832]; exact (mem_old (mem_old (mem_old hm_765)))
  have hk_873 : Kd S_831 q_30 14 := by rw [eS_832]; exact (kd_nA (k := 15) (n := 40) hq_828 (mem_old (mem_old hm_765)) (kd_nA (k := 15) (n := 400) hq_824 (mem_old hm_765) (kd_nA (k := 14) (n := 400) hq_821 hm_765 hk_766)))
  have hn_874 : Ln S_831 q_30 4096 := by rw [eS_832]; exact (ln_nA (k := 15) hq_828 (mem_old (mem_old hm_765)) (ln_nA (k := 15) hq_824 (mem_old hm_765) (ln_nA (k := 14) hq_821 hm_765 hn_767)))
  have hz_875 : ∀ j, aI S_831 q_30 j = 0 := by rw [eS_832]; exact (fun j9 => rd_nAI (k := 15) (n := 40) hq_828 (mem_old (mem_old hm_765)) ((fun j9 => rd_nAI (k := 15) (n := 400) hq_824 (mem_old hm_765) ((fun j9 => rd_nAI (k := 14) (n := 400) hq_821 hm_765 (hz_768 j9)) j9)) j9))
  have hm_876 : q_335 ∈ hL S_831 := by rw [eS_832]; exact (mem_old (mem_old (mem_old hm_769)))
  have hk_877 : Kd S_831 q_335 13 := by rw [eS_832]; exact (kd_nA (k := 15) (n := 40) hq_828 (mem_old (mem_old hm_769)) (kd_nA (k := 15) (n := 400) hq_824 (mem_old hm_769) (kd_nA (k := 14) (n := 400) hq_821 hm_769 hk_770)))
  have hn_878 : Ln S_831 q_335 8000 := by rw [eS_832]; exact (ln_nA (k := 15) hq_828 (mem_old (mem_old hm_769)) (ln_nA (k := 15) hq_824 (mem_old hm_769) (ln_nA (k := 14) hq_821 hm_769 hn_771)))
  have hz_879 : ∀ j, aI S_831 q_335 j = 0 := by rw [eS_832]; exact (fun j9 => rd_nAI (k := 15) (n := 40) hq_828 (mem_old (mem_old hm_769)) ((fun j9 => rd_nAI (k := 15) (n := 400) hq_824 (mem_old hm_769) ((fun j9 => rd_nAI (k := 14) (n := 400) hq_821 hm_769 (hz_772 j9)) j9)) j9))
  have hm_880 : q_342 ∈ hL S_831 := by rw [eS_832]; exact (mem_old (mem_old (mem_old hm_773)))
  have hk_881 : Kd S_831 q_342 13 := by rw [eS_832]; exact (kd_nA (k := 15) (n := 40) hq_828 (mem_old (mem_old hm_773)) (kd_nA (k := 15) (n := 400) hq_824 (mem_old hm_773) (kd_nA (k := 14) (n := 400) hq_821 hm_773 hk_774)))
  have hn_882 : Ln S_831 q_342 64000 := by rw [eS_832]; exact (ln_nA (k := 15) hq_828 (mem_old (mem_old hm_773)) (ln_nA (k := 15) hq_824 (mem_old hm_773) (ln_nA (k := 14) hq_821 hm_773 hn_775)))
  have hz_883 : ∀ j, aI S_831 q_342 j = 0 := by rw [eS_832]; exact (fun j9 => rd_nAI (k := 15) (n := 40) hq_828 (mem_old (mem_old hm_773)) ((fun j9 => rd_nAI (k := 15) (n := 400) hq_824 (mem_old hm_773) ((fun j9 => rd_nAI (k := 14) (n := 400) hq_821 hm_773 (hz_776 j9)) j9)) j9))
  have hm_884 : q_509 ∈ hL S_831 := by rw [eS_832]; exact (mem_old (mem_old (mem_old hm_777)))
  have hk_885 : Kd S_831 q_509 13 := by rw [eS_832]; exact (kd_nA (k := 15) (n := 40) hq_828 (mem_old (mem_old hm_777)) (kd_nA (k := 15) (n := 400) hq_824 (mem_old hm_777) (kd_nA (k := 14) (n := 400) hq_821 hm_777 hk_778)))
  have hn_886 : Ln S_831 q_509 60008 := by rw [eS_832]; exact (ln_nA (k := 15) hq_828 (mem_old (mem_old hm_777)) (ln_nA (k := 15) hq_824 (mem_old hm_777) (ln_nA (k := 14) hq_821 hm_777 hn_779)))
  have hz_887 : ∀ j, aI S_831 q_509 j = 0 := by rw [eS_832]; exact (fun j9 => rd_nAI (k := 15) (n := 40) hq_828 (mem_old (mem_old hm_777)) ((fun j9 => rd_nAI (k := 15) (n := 400) hq_824 (mem_old hm_777) ((fun j9 => rd_nAI (k := 14) (n := 400) hq_821 hm_777 (hz_780 j9)) j9)) j9))
  have hm_888 : q_512 ∈ hL S_831 := by rw [eS_832]; exact (mem_old (mem_old (mem_old hm_781)))
  have hk_889 : Kd S_831 q_512 14 := by rw [eS_832]; exact (kd_nA (k := 15) (n := 40) hq_828 (mem_old (mem_old hm_781)) (kd_nA (k := 15) (n := 400) hq_824 (mem_old hm_781) (kd_nA (k := 14) (n := 400) hq_821 hm_781 hk_782)))
  have hn_890 : Ln S_831 q_512 12 := by rw [eS_832]; exact (ln_nA (k := 15) hq_828 (mem_old (mem_old hm_781)) (ln_nA (k := 15) hq_824 (mem_old hm_781) (ln_nA (k := 14) hq_821 hm_781 hn_783)))
  have hz_891 : ∀ j, aI S_831 q_512 j = 0 := by rw [eS_832]; exact (fun j9 => rd_nAI (k := 15) (n := 40) hq_828 (mem_old (mem_old hm_781)) ((fun j9 => rd_nAI (k := 15) (n := 400) hq_824 (mem_old hm_781) ((fun j9 => rd_nAI (k := 14) (n := 400) hq_821 hm_781 (hz_784 j9)) j9)) j9))
  have hm_892 : q_609 ∈ hL S_831 := by rw [eS_832]; exact (mem_old (mem_old (mem_old hm_785)))
  have hk_893 : Kd S_831 q_609 14 := by rw [eS_832]; exact (kd_nA (k := 15) (n := 40) hq_828 (mem_old (mem_old hm_785)) (kd_nA (k := 15) (n := 400) hq_824 (mem_old hm_785) (kd_nA (k := 14) (n := 400) hq_821 hm_785 hk_786)))
  have hn_894 : Ln S_831 q_609 148 := by rw [eS_832]; exact (ln_nA (k := 15) hq_828 (mem_old (mem_old hm_785)) (ln_nA (k := 15) hq_824 (mem_old hm_785) (ln_nA (k := 14) hq_821 hm_785 hn_787)))
  have hz_895 : ∀ j, aI S_831 q_609 j = 0 := by rw [eS_832]; exact (fun j9 => rd_nAI (k := 15) (n := 40) hq_828 (mem_old (mem_old hm_785)) ((fun j9 => rd_nAI (k := 15) (n := 400) hq_824 (mem_old hm_785) ((fun j9 => rd_nAI (k := 14) (n := 400) hq_821 hm_785 (hz_788 j9)) j9)) j9))
  have hm_896 : q_613 ∈ hL S_831 := by rw [eS_832]; exact (mem_old (mem_old (mem_old hm_789)))
  have hk_897 : Kd S_831 q_613 14 := by rw [eS_832]; exact (kd_nA (k := 15) (n := 40) hq_828 (mem_old (mem_old hm_789)) (kd_nA (k := 15) (n := 400) hq_824 (mem_old hm_789) (kd_nA (k := 14) (n := 400) hq_821 hm_789 hk_790)))
  have hn_898 : Ln S_831 q_613 148 := by rw [eS_832]; exact (ln_nA (k := 15) hq_828 (mem_old (mem_old hm_789)) (ln_nA (k := 15) hq_824 (mem_old hm_789) (ln_nA (k := 14) hq_821 hm_789 hn_791)))
  have hz_899 : ∀ j, aI S_831 q_613 j = 0 := by rw [eS_832]; exact (fun j9 => rd_nAI (k := 15) (n := 40) hq_828 (mem_old (mem_old hm_789)) ((fun j9 => rd_nAI (k := 15) (n := 400) hq_824 (mem_old hm_789) ((fun j9 => rd_nAI (k := 14) (n := 400) hq_821 hm_789 (hz_792 j9)) j9)) j9))
  have hm_900 : q_8 ∈ hL S_831 := by rw [eS_832]; exact (mem_old (mem_old (mem_old hm_793)))
  have hk_901 : Kd S_831 q_8 17 := by rw [eS_832]; exact (kd_nA (k := 15) (n := 40) hq_828 (mem_old (mem_old hm_793)) (kd_nA (k := 15) (n := 400) hq_824 (mem_old hm_793) (kd_nA (k := 14) (n := 400) hq_821 hm_793 hk_794)))
  have hn_902 : Ln S_831 q_8 17 := by rw [eS_832]; exact (ln_nA (k := 15) hq_828 (mem_old (mem_old hm_793)) (ln_nA (k := 15) hq_824 (mem_old hm_793) (ln_nA (k := 14) hq_821 hm_793 hn_795)))
  have hz_903 : ∀ j, aI S_831 q_8 j = 0 := by rw [eS_832]; exact (fun j9 => rd_nAI (k := 15) (n := 40) hq_828 (mem_old (mem_old hm_793)) ((fun j9 => rd_nAI (k := 15) (n := 400) hq_824 (mem_old hm_793) ((fun j9 => rd_nAI (k := 14) (n := 400) hq_821 hm_793 (hz_796 j9)) j9)) j9))
  have hm_904 : q_97 ∈ hL S_831 := by rw [eS_832]; exact (mem_old (mem_old (mem_old hm_797)))
  have hk_905 : Kd S_831 q_97 17 := by rw [eS_832]; exact (kd_nA (k := 15) (n := 40) hq_828 (mem_old (mem_old hm_797)) (kd_nA (k := 15) (n := 400) hq_824 (mem_old hm_797) (kd_nA (k := 14) (n := 400) hq_821 hm_797 hk_798)))
  have hn_906 : Ln S_831 q_97 16 := by rw [eS_832]; exact (ln_nA (k := 15) hq_828 (mem_old (mem_old hm_797)) (ln_nA (k := 15) hq_824 (mem_old hm_797) (ln_nA (k := 14) hq_821 hm_797 hn_799)))
  have hz_907 : ∀ j, aI S_831 q_97 j = 0 := by rw [eS_832]; exact (fun j9 => rd_nAI (k := 15) (n := 40) hq_828 (mem_old (mem_old hm_797)) ((fun j9 => rd_nAI (k := 15) (n := 400) hq_824 (mem_old hm_797) ((fun j9 => rd_nAI (k := 14) (n := 400) hq_821 hm_797 (hz_800 j9)) j9)) j9))
  have hv_908 : hR S_831 1202 h = (some q_8) := by rw [eS_832]; exact (rd_sRf (S := (nA (sR (nA (sR (nA S_724 q_820 14 400) 1272 h (some q_820)) q_823 15 400) 1273 h (some q_823)) q_827 15 40)) (g := 1274) (a := h) (v := (some q_827)) (by decide) (rd_sRf (S := (nA (sR (nA S_724 q_820 14 400) 1272 h (some q_820)) q_823 15 400)) (g := 1273) (a := h) (v := (some q_823)) (by decide) (rd_sRf (S := (nA S_724 q_820 14 400)) (g := 1272) (a := h) (v := (some q_820)) (by decide) hv_801)))
  have hv_909 : hR S_831 1203 h = (some q_23) := by rw [eS_832]; exact (rd_sRf (S := (nA (sR (nA (sR (nA S_724 q_820 14 400) 1272 h (some q_820)) q_823 15 400) 1273 h (some q_823)) q_827 15 40)) (g := 1274) (a := h) (v := (some q_827)) (by decide) (rd_sRf (S := (nA (sR (nA S_724 q_820 14 400) 1272 h (some q_820)) q_823 15 400)) (g := 1273) (a := h) (v := (some q_823)) (by decide) (rd_sRf (S := (nA S_724 q_820 14 400)) (g := 1272) (a := h) (v := (some q_820)) (by decide) hv_802)))
  have hv_910 : hR S_831 1204 h = (some q_26) := by rw [eS_832]; exact (rd_sRf (S := (nA (sR (nA (sR (nA S_724 q_820 14 400) 1272 h (some q_820)) q_823 15 400) 1273 h (some q_823)) q_827 15 40)) (g := 1274) (a := h) (v := (some q_827)) (by decide) (rd_sRf (S := (nA (sR (nA S_724 q_820 14 400) 1272 h (some q_820)) q_823 15 400)) (g := 1273) (a := h) (v := (some q_823)) (by decide) (rd_sRf (S := (nA S_724 q_820 14 400)) (g := 1272) (a := h) (v := (some q_820)) (by decide) hv_803)))
  have hv_911 : hR S_831 1205 h = (some q_30) := by rw [eS_832]; exact (rd_sRf (S := (nA (sR (nA (sR (nA S_724 q_820 14 400) 1272 h (some q_820)) q_823 15 400) 1273 h (some q_823)) q_827 15 40)) (g := 1274) (a := h) (v := (some q_827)) (by decide) (rd_sRf (S := (nA (sR (nA S_724 q_820 14 400) 1272 h (some q_820)) q_823 15 400)) (g := 1273) (a := h) (v := (some q_823)) (by decide) (rd_sRf (S := (nA S_724 q_820 14 400)) (g := 1272) (a := h) (v := (some q_820)) (by decide) hv_804)))
  have hv_912 : hR S_831 1210 h = (some q_97) := by rw [eS_832]; exact (rd_sRf (S := (nA (sR (nA (sR (nA S_724 q_820 14 400) 1272 h (some q_820)) q_823 15 400) 1273 h (some q_823)) q_827 15 40)) (g := 1274) (a := h) (v := (some q_827)) (by decide) (rd_sRf (S := (nA (sR (nA S_724 q_820 14 400) 1272 h (some q_820)) q_823 15 400)) (g := 1273) (a := h) (v := (some q_823)) (by decide) (rd_sRf (S := (nA S_724 q_820 14 400)) (g := 1272) (a := h) (v := (some q_820)) (by decide) hv_805)))
  have hv_913 : hR S_831 1211 h = (some q_100) := by rw [eS_832]; exact (rd_sRf (S := (nA (sR (nA (sR (nA S_724 q_820 14 400) 1272 h (some q_820)) q_823 15 400) 1273 h (some q_823)) q_827 15 40)) (g := 1274) (a := h) (v := (some q_827)) (by decide) (rd_sRf (S := (nA (sR (nA S_724 q_820 14 400) 1272 h (some q_820)) q_823 15 400)) (g := 1273) (a := h) (v := (some q_823)) (by decide) (rd_sRf (S := (nA S_724 q_820 14 400)) (g := 1272) (a := h) (v := (some q_820)) (by decide) hv_806)))
  have hv_914 : hR S_831 1215 h = (some q_151) := by rw [eS_832]; exact (rd_sRf (S := (nA (sR (nA (sR (nA S_724 q_820 14 400) 1272 h (some q_820)) q_823 15 400) 1273 h (some q_823)) q_827 15 40)) (g := 1274) (a := h) (v := (some q_827)) (by decide) (rd_sRf (S := (nA (sR (nA S_724 q_820 14 400) 1272 h (some q_820)) q_823 15 400)) (g := 1273) (a := h) (v := (some q_823)) (by decide) (rd_sRf (S := (nA S_724 q_820 14 400)) (g := 1272) (a := h) (v := (some q_820)) (by decide) hv_807)))
  have hv_915 : hR S_831 1216 h = (some q_196) := by rw [eS_832]; exact (rd_sRf (S := (nA (sR (nA (sR (nA S_724 q_820 14 400) 1272 h (some q_820)) q_823 15 400) 1273 h (some q_823)) q_827 15 40)) (g := 1274) (a := h) (v := (some q_827)) (by decide) (rd_sRf (S := (nA (sR (nA S_724 q_820 14 400) 1272 h (some q_820)) q_823 15 400)) (g := 1273) (a := h) (v := (some q_823)) (by decide) (rd_sRf (S := (nA S_724 q_820 14 400)) (g := 1272) (a := h) (v := (some q_820)) (by decide) hv_808)))
  have hv_916 : hR S_831 1217 h = (some q_199) := by rw [eS_832]; exact (rd_sRf (S := (nA (sR (nA (sR (nA S_724 q_820 14 400) 1272 h (some q_820)) q_823 15 400) 1273 h (some q_823)) q_827 15 40)) (g := 1274) (a := h) (v := (some q_827)) (by decide) (rd_sRf (S := (nA (sR (nA S_724 q_820 14 400) 1272 h (some q_820)) q_823 15 400)) (g := 1273) (a := h) (v := (some q_823)) (by decide) (rd_sRf (S := (nA S_724 q_820 14 400)) (g := 1272) (a := h) (v := (some q_820)) (by decide) hv_809)))
  have hv_917 : hR S_831 1219 h = (some q_258) := by rw [eS_832]; exact (rd_sRf (S := (nA (sR (nA (sR (nA S_724 q_820 14 400) 1272 h (some q_820)) q_823 15 400) 1273 h (some q_823)) q_827 15 40)) (g := 1274) (a := h) (v := (some q_827)) (by decide) (rd_sRf (S := (nA (sR (nA S_724 q_820 14 400) 1272 h (some q_820)) q_823 15 400)) (g := 1273) (a := h) (v := (some q_823)) (by decide) (rd_sRf (S := (nA S_724 q_820 14 400)) (g := 1272) (a := h) (v := (some q_820)) (by decide) hv_810)))
  have hv_918 : hR S_831 1220 h = (some q_261) := by rw [eS_832]; exact (rd_sRf (S := (nA (sR (nA (sR (nA S_724 q_820 14 400) 1272 h (some q_820)) q_823 15 400) 1273 h (some q_823)) q_827 15 40)) (g := 1274) (a := h) (v := (some q_827)) (by decide) (rd_sRf (S := (nA (sR (nA S_724 q_820 14 400) 1272 h (some q_820)) q_823 15 400)) (g := 1273) (a := h) (v := (some q_823)) (by decide) (rd_sRf (S := (nA S_724 q_820 14 400)) (g := 1272) (a := h) (v := (some q_820)) (by decide) hv_811)))
  have hv_919 : hR S_831 1221 h = (some q_265) := by rw [eS_832]; exact (rd_sRf (S := (nA (sR (nA (sR (nA S_724 q_820 14 400) 1272 h (some q_820)) q_823 15 400) 1273 h (some q_823)) q_827 15 40)) (g := 1274) (a := h) (v := (some q_827)) (by decide) (rd_sRf (S := (nA (sR (nA S_724 q_820 14 400) 1272 h (some q_820)) q_823 15 400)) (g := 1273) (a := h) (v := (some q_823)) (by decide) (rd_sRf (S := (nA S_724 q_820 14 400)) (g := 1272) (a := h) (v := (some q_820)) (by decide) hv_812)))
  have hv_920 : hR S_831 1223 h = (some q_335) := by rw [eS_832]; exact (rd_sRf (S := (nA (sR (nA (sR (nA S_724 q_820 14 400) 1272 h (some q_820)) q_823 15 400) 1273 h (some q_823)) q_827 15 40)) (g := 1274) (a := h) (v := (some q_827)) (by decide) (rd_sRf (S := (nA (sR (nA S_724 q_820 14 400) 1272 h (some q_820)) q_823 15 400)) (g := 1273) (a := h) (v := (some q_823)) (by decide) (rd_sRf (S := (nA S_724 q_820 14 400)) (g := 1272) (a := h) (v := (some q_820)) (by decide) hv_813)))
  have hv_921 : hR S_831 1234 h = (some q_342) := by rw [eS_832]; exact (rd_sRf (S := (nA (sR (nA (sR (nA S_724 q_820 14 400) 1272 h (some q_820)) q_823 15 400) 1273 h (some q_823)) q_827 15 40)) (g := 1274) (a := h) (v := (some q_827)) (by decide) (rd_sRf (S := (nA (sR (nA S_724 q_820 14 400) 1272 h (some q_820)) q_823 15 400)) (g := 1273) (a := h) (v := (some q_823)) (by decide) (rd_sRf (S := (nA S_724 q_820 14 400)) (g := 1272) (a := h) (v := (some q_820)) (by decide) hv_814)))
  have hv_922 : hR S_831 1241 h = (some q_509) := by rw [eS_832]; exact (rd_sRf (S := (nA (sR (nA (sR (nA S_724 q_820 14 400) 1272 h (some q_820)) q_823 15 400) 1273 h (some q_823)) q_827 15 40)) (g := 1274) (a := h) (v := (some q_827)) (by decide) (rd_sRf (S := (nA (sR (nA S_724 q_820 14 400) 1272 h (some q_820)) q_823 15 400)) (g := 1273) (a := h) (v := (some q_823)) (by decide) (rd_sRf (S := (nA S_724 q_820 14 400)) (g := 1272) (a := h) (v := (some q_820)) (by decide) hv_815)))
  have hv_923 : hR S_831 1246 h = (some q_512) := by rw [eS_832]; exact (rd_sRf (S := (nA (sR (nA (sR (nA S_724 q_820 14 400) 1272 h (some q_820)) q_823 15 400) 1273 h (some q_823)) q_827 15 40)) (g := 1274) (a := h) (v := (some q_827)) (by decide) (rd_sRf (S := (nA (sR (nA S_724 q_820 14 400) 1272 h (some q_820)) q_823 15 400)) (g := 1273) (a := h) (v := (some q_823)) (by decide) (rd_sRf (S := (nA S_724 q_820 14 400)) (g := 1272) (a := h) (v := (some q_820)) (by decide) hv_816)))
  have hv_924 : hR S_831 1256 h = (some q_609) := by rw [eS_832]; exact (rd_sRf (S := (nA (sR (nA (sR (nA S_724 q_820 14 400) 1272 h (some q_820)) q_823 15 400) 1273 h (some q_823)) q_827 15 40)) (g := 1274) (a := h) (v := (some q_827)) (by decide) (rd_sRf (S := (nA (sR (nA S_724 q_820 14 400) 1272 h (some q_820)) q_823 15 400)) (g := 1273) (a := h) (v := (some q_823)) (by decide) (rd_sRf (S := (nA S_724 q_820 14 400)) (g := 1272) (a := h) (v := (some q_820)) (by decide) hv_817)))
  have hv_925 : hR S_831 1257 h = (some q_613) := by rw [eS_832]; exact (rd_sRf (S := (nA (sR (nA (sR (nA S_724 q_820 14 400) 1272 h (some q_820)) q_823 15 400) 1273 h (some q_823)) q_827 15 40)) (g := 1274) (a := h) (v := (some q_827)) (by decide) (rd_sRf (S := (nA (sR (nA S_724 q_820 14 400) 1272 h (some q_820)) q_823 15 400)) (g := 1273) (a := h) (v := (some q_823)) (by decide) (rd_sRf (S := (nA S_724 q_820 14 400)) (g := 1272) (a := h) (v := (some q_820)) (by decide) hv_818)))
  have hf_926 : Fm (fun f9 b9 => (f9 = 1244 ∧ b9 = h) ∨ (f9 = 1245 ∧ b9 = h)) (fun f9 b9 => b9 = h) (fun _ => False) S S_831 := by rw [eS_832]; exact hf_833
  refine j_newJ (N := 40) C ka_long (by decide) (by decide) (Nat.le_of_ble_eq_true rfl) (M.cells (by decide)) (M.slots (Nat.le_of_ble_eq_true rfl)) dX12_init_336 (fun q_927 hq_928 => ?_)
  have hz_929 : q_927 ∉ hL S := fun h9 => hq_928 (hf_926.mem h9)
  refine j_putrF (f := 1275) C hm9 flX12_133o (by decide) rfl rfl dX12_init_338 (mem_old hm_834) (kd_nA (k := 15) (n := 40) hq_928 hm_834 hk_835) rfl ?_
  refine j_iconst (v := 0) C dX12_init_341 (by decide) ?_
  refine j_istore_n (lv' := [(1, .int 0), (0, .ref h)]) C dX12_init_342 rfl (by rw [hn9]; decide) rfl ?_
  have hf_932 : Fm (fun f9 b9 => (f9 = 1244 ∧ b9 = h) ∨ (f9 = 1245 ∧ b9 = h)) (fun f9 b9 => b9 = h) (fun _ => False) S (sR (nA S_831 q_927 15 40) 1275 h (some q_927)) := ((hf_926.nA _ _ hq_928).sR _ (fun _ => rfl))
  obtain ⟨S_930, eS_931⟩ : ∃ S9 : Hp, S9 = (sR (nA S_831 q_927 15 40) 1275 h (some q_927)) := ⟨_, rfl⟩
  refine J.eq (S' := S_930) eS_931.symm rfl rfl ?_
  have hm_933 : h ∈ hL S_930 := by rw [eS_931]; exact (mem_old hm_834)
  have hk_934 : Kd S_930 h 12 := by rw [eS_931]; exact (kd_nA (k := 15) (n := 40) hq_928 hm_834 hk_835)
  have hm_935 : q_100 ∈ hL S_930 := by rw [eS_931]; exact (mem_old hm_836)
  have hk_936 : Kd S_930 q_100 17 := by rw [eS_931]; exact (kd_nA (k := 15) (n := 40) hq_928 hm_836 hk_837)
  have hn_937 : Ln S_930 q_100 16 := by rw [eS_931]; exact (ln_nA (k := 15) hq_928 hm_836 hn_838)
  have hz_938 : ∀ j, aI S_930 q_100 j = 0 := by rw [eS_931]; exact (fun j9 => rd_nAI (k := 15) (n := 40) hq_928 hm_836 (hz_839 j9))
  have hm_939 : q_151 ∈ hL S_930 := by rw [eS_931]; exact (mem_old hm_840)
  have hk_940 : Kd S_930 q_151 17 := by rw [eS_931]; exact (kd_nA (k := 15) (n := 40) hq_928 hm_840 hk_841)
  have hn_941 : Ln S_930 q_151 16 := by rw [eS_931]; exact (ln_nA (k := 15) hq_928 hm_840 hn_842)
  have hz_942 : ∀ j, aI S_930 q_151 j = 0 := by rw [eS_931]; exact (fun j9 => rd_nAI (k := 15) (n := 40) hq_928 hm_840 (hz_843 j9))
  have hm_943 : q_196 ∈ hL S_930 := by rw [eS_931]; exact (mem_old hm_844)
  have hk_944 : Kd S_930 q_196 17 := by rw [eS_931]; exact (kd_nA (k := 15) (n := 40) hq_928 hm_844 hk_845)
  have hn_945 : Ln S_930 q_196 16 := by rw [eS_931]; exact (ln_nA (k := 15) hq_928 hm_844 hn_846)
  have hz_946 : ∀ j, aI S_930 q_196 j = 0 := by rw [eS_931]; exact (fun j9 => rd_nAI (k := 15) (n := 40) hq_928 hm_844 (hz_847 j9))
  have hm_947 : q_199 ∈ hL S_930 := by rw [eS_931]; exact (mem_old hm_848)
  have hk_948 : Kd S_930 q_199 14 := by rw [eS_931]; exact (kd_nA (k := 15) (n := 40) hq_928 hm_848 hk_849)
  have hn_949 : Ln S_930 q_199 16 := by rw [eS_931]; exact (ln_nA (k := 15) hq_928 hm_848 hn_850)
  have hz_950 : ∀ j, aI S_930 q_199 j = 0 := by rw [eS_931]; exact (fun j9 => rd_nAI (k := 15) (n := 40) hq_928 hm_848 (hz_851 j9))
  have hm_951 : q_23 ∈ hL S_930 := by rw [eS_931]; exact (mem_old hm_852)
  have hk_952 : Kd S_930 q_23 17 := by rw [eS_931]; exact (kd_nA (k := 15) (n := 40) hq_928 hm_852 hk_853)
  have hn_953 : Ln S_930 q_23 17 := by rw [eS_931]; exact (ln_nA (k := 15) hq_928 hm_852 hn_854)
  have hz_954 : ∀ j, aI S_930 q_23 j = 0 := by rw [eS_931]; exact (fun j9 => rd_nAI (k := 15) (n := 40) hq_928 hm_852 (hz_855 j9))
  have hm_955 : q_258 ∈ hL S_930 := by rw [eS_931]; exact (mem_old hm_856)
  have hk_956 : Kd S_930 q_258 13 := by rw [eS_931]; exact (kd_nA (k := 15) (n := 40) hq_928 hm_856 hk_857)
  have hn_957 : Ln S_930 q_258 12000 := by rw [eS_931]; exact (ln_nA (k := 15) hq_928 hm_856 hn_858)
  have hz_958 : ∀ j, aI S_930 q_258 j = 0 := by rw [eS_931]; exact (fun j9 => rd_nAI (k := 15) (n := 40) hq_928 hm_856 (hz_859 j9))
  have hm_959 : q_26 ∈ hL S_930 := by rw [eS_931]; exact (mem_old hm_860)
  have hk_960 : Kd S_930 q_26 14 := by rw [eS_931]; exact (kd_nA (k := 15) (n := 40) hq_928 hm_860 hk_861)
  have hn_961 : Ln S_930 q_26 119 := by rw [eS_931]; exact (ln_nA (k := 15) hq_928 hm_860 hn_862)
  have hz_962 : ∀ j, aI S_930 q_26 j = 0 := by rw [eS_931]; exact (fun j9 => rd_nAI (k := 15) (n := 40) hq_928 hm_860 (hz_863 j9))
  have hm_963 : q_261 ∈ hL S_930 := by rw [eS_931]; exact (mem_old hm_864)
  have hk_964 : Kd S_930 q_261 14 := by rw [eS_931]; exact (kd_nA (k := 15) (n := 40) hq_928 hm_864 hk_865)
  have hn_965 : Ln S_930 q_261 7 := by rw [eS_931]; exact (ln_nA (k := 15) hq_928 hm_864 hn_866)
  have hz_966 : ∀ j, aI S_930 q_261 j = 0 := by rw [eS_931]; exact (fun j9 => rd_nAI (k := 15) (n := 40) hq_928 hm_864 (hz_867 j9))
  have hm_967 : q_265 ∈ hL S_930 := by rw [eS_931]; exact (mem_old hm_868)
  have hk_968 : Kd S_930 q_265 14 := by rw [eS_931]; exact (kd_nA (k := 15) (n := 40) hq_928 hm_868 hk_869)
  have hn_969 : Ln S_930 q_265 6 := by rw [eS_931]; exact (ln_nA (k := 15) hq_928 hm_868 hn_870)
  have hz_970 : ∀ j, aI S_930 q_265 j = 0 := by rw [eS_931]; exact (fun j9 => rd_nAI (k := 15) (n := 40) hq_928 hm_868 (hz_871 j9))
  have hm_971 : q_30 ∈ hL S_930 := by rw [eS_931]; exact (mem_old hm_872)
  have hk_972 : Kd S_930 q_30 14 := by rw [eS_931]; exact (kd_nA (k := 15) (n := 40) hq_928 hm_872 hk_873)
  have hn_973 : Ln S_930 q_30 4096 := by rw [eS_931]; exact (ln_nA (k := 15) hq_928 hm_872 hn_874)
  have hz_974 : ∀ j, aI S_930 q_30 j = 0 := by rw [eS_931]; exact (fun j9 => rd_nAI (k := 15) (n := 40) hq_928 hm_872 (hz_875 j9))
  have hm_975 : q_335 ∈ hL S_930 := by rw [eS_931]; exact (mem_old hm_876)
  have hk_976 : Kd S_930 q_335 13 := by rw [eS_931]; exact (kd_nA (k := 15) (n := 40) hq_928 hm_876 hk_877)
  have hn_977 : Ln S_930 q_335 8000 := by rw [eS_931]; exact (ln_nA (k := 15) hq_928 hm_876 hn_878)
  have hz_978 : ∀ j, aI S_930 q_335 j = 0 := by rw [eS_931]; exact (fun j9 => rd_nAI (k := 15) (n := 40) hq_928 hm_876 (hz_879 j9))
  have hm_979 : q_342 ∈ hL S_930 := by rw [eS_931]; exact (mem_old hm_880)
  have hk_980 : Kd S_930 q_342 13 := by rw [eS_931]; exact (kd_nA (k := 15) (n := 40) hq_928 hm_880 hk_881)
  have hn_981 : Ln S_930 q_342 64000 := by rw [eS_931]; exact (ln_nA (k := 15) hq_928 hm_880 hn_882)
  have hz_982 : ∀ j, aI S_930 q_342 j = 0 := by rw [eS_931]; exact (fun j9 => rd_nAI (k := 15) (n := 40) hq_928 hm_880 (hz_883 j9))
  have hm_983 : q_509 ∈ hL S_930 := by rw [eS_931]; exact (mem_old hm_884)
  have hk_984 : Kd S_930 q_509 13 := by rw [eS_931]; exact (kd_nA (k := 15) (n := 40) hq_928 hm_884 hk_885)
  have hn_985 : Ln S_930 q_509 60008 := by rw [eS_931]; exact (ln_nA (k := 15) hq_928 hm_884 hn_886)
  have hz_986 : ∀ j, aI S_930 q_509 j = 0 := by rw [eS_931]; exact (fun j9 => rd_nAI (k := 15) (n := 40) hq_928 hm_884 (hz_887 j9))
  have hm_987 : q_512 ∈ hL S_930 := by rw [eS_931]; exact (mem_old hm_888)
  have hk_988 : Kd S_930 q_512 14 := by rw [eS_931]; exact (kd_nA (k := 15) (n := 40) hq_928 hm_888 hk_889)
  have hn_989 : Ln S_930 q_512 12 := by rw [eS_931]; exact (ln_nA (k := 15) hq_928 hm_888 hn_890)
  have hz_990 : ∀ j, aI S_930 q_512 j = 0 := by rw [eS_931]; exact (fun j9 => rd_nAI (k := 15) (n := 40) hq_928 hm_888 (hz_891 j9))
  have hm_991 : q_609 ∈ hL S_930 := by rw [eS_931]; exact (mem_old hm_892)
  have hk_992 : Kd S_930 q_609 14 := by rw [eS_931]; exact (kd_nA (k := 15) (n := 40) hq_928 hm_892 hk_893)
  have hn_993 : Ln S_930 q_609 148 := by rw [eS_931]; exact (ln_nA (k := 15) hq_928 hm_892 hn_894)
  have hz_994 : ∀ j, aI S_930 q_609 j = 0 := by rw [eS_931]; exact (fun j9 => rd_nAI (k := 15) (n := 40) hq_928 hm_892 (hz_895 j9))
  have hm_995 : q_613 ∈ hL S_930 := by rw [eS_931]; exact (mem_old hm_896)
  have hk_996 : Kd S_930 q_613 14 := by rw [eS_931]; exact (kd_nA (k := 15) (n := 40) hq_928 hm_896 hk_897)
  have hn_997 : Ln S_930 q_613 148 := by rw [eS_931]; exact (ln_nA (k := 15) hq_928 hm_896 hn_898)
  have hz_998 : ∀ j, aI S_930 q_613 j = 0 := by rw [eS_931]; exact (fun j9 => rd_nAI (k := 15) (n := 40) hq_928 hm_896 (hz_899 j9))
  have hm_999 : q_8 ∈ hL S_930 := by rw [eS_931]; exact (mem_old hm_900)
  have hk_1000 : Kd S_930 q_8 17 := by rw [eS_931]; exact (kd_nA (k := 15) (n := 40) hq_928 hm_900 hk_901)
  have hn_1001 : Ln S_930 q_8 17 := by rw [eS_931]; exact (ln_nA (k := 15) hq_928 hm_900 hn_902)
  have hz_1002 : ∀ j, aI S_930 q_8 j = 0 := by rw [eS_931]; exact (fun j9 => rd_nAI (k := 15) (n := 40) hq_928 hm_900 (hz_903 j9))
  have hm_1003 : q_97 ∈ hL S_930 := by rw [eS_931]; exact (mem_old hm_904)
  have hk_1004 : Kd S_930 q_97 17 := by rw [eS_931]; exact (kd_nA (k := 15) (n := 40) hq_928 hm_904 hk_905)
  have hn_1005 : Ln S_930 q_97 16 := by rw [eS_931]; exact (ln_nA (k := 15) hq_928 hm_904 hn_906)
  have hz_1006 : ∀ j, aI S_930 q_97 j = 0 := by rw [eS_931]; exact (fun j9 => rd_nAI (k := 15) (n := 40) hq_928 hm_904 (hz_907 j9))
  have hv_1007 : hR S_930 1202 h = (some q_8) := by rw [eS_931]; exact (rd_sRf (S := (nA S_831 q_927 15 40)) (g := 1275) (a := h) (v := (some q_927)) (by decide) hv_908)
  have hv_1008 : hR S_930 1203 h = (some q_23) := by rw [eS_931]; exact (rd_sRf (S := (nA S_831 q_927 15 40)) (g := 1275) (a := h) (v := (some q_927)) (by decide) hv_909)
  have hv_1009 : hR S_930 1204 h = (some q_26) := by rw [eS_931]; exact (rd_sRf (S := (nA S_831 q_927 15 40)) (g := 1275) (a := h) (v := (some q_927)) (by decide) hv_910)
  have hv_1010 : hR S_930 1205 h = (some q_30) := by rw [eS_931]; exact (rd_sRf (S := (nA S_831 q_927 15 40)) (g := 1275) (a := h) (v := (some q_927)) (by decide) hv_911)
  have hv_1011 : hR S_930 1210 h = (some q_97) := by rw [eS_931]; exact (rd_sRf (S := (nA S_831 q_927 15 40)) (g := 1275) (a := h) (v := (some q_927)) (by decide) hv_912)
  have hv_1012 : hR S_930 1211 h = (some q_100) := by rw [eS_931]; exact (rd_sRf (S := (nA S_831 q_927 15 40)) (g := 1275) (a := h) (v := (some q_927)) (by decide) hv_913)
  have hv_1013 : hR S_930 1215 h = (some q_151) := by rw [eS_931]; exact (rd_sRf (S := (nA S_831 q_927 15 40)) (g := 1275) (a := h) (v := (some q_927)) (by decide) hv_914)
  have hv_1014 : hR S_930 1216 h = (some q_196) := by rw [eS_931]; exact (rd_sRf (S := (nA S_831 q_927 15 40)) (g := 1275) (a := h) (v := (some q_927)) (by decide) hv_915)
  have hv_1015 : hR S_930 1217 h = (some q_199) := by rw [eS_931]; exact (rd_sRf (S := (nA S_831 q_927 15 40)) (g := 1275) (a := h) (v := (some q_927)) (by decide) hv_916)
  have hv_1016 : hR S_930 1219 h = (some q_258) := by rw [eS_931]; exact (rd_sRf (S := (nA S_831 q_927 15 40)) (g := 1275) (a := h) (v := (some q_927)) (by decide) hv_917)
  have hv_1017 : hR S_930 1220 h = (some q_261) := by rw [eS_931]; exact (rd_sRf (S := (nA S_831 q_927 15 40)) (g := 1275) (a := h) (v := (some q_927)) (by decide) hv_918)
  have hv_1018 : hR S_930 1221 h = (some q_265) := by rw [eS_931]; exact (rd_sRf (S := (nA S_831 q_927 15 40)) (g := 1275) (a := h) (v := (some q_927)) (by decide) hv_919)
  have hv_1019 : hR S_930 1223 h = (some q_335) := by rw [eS_931]; exact (rd_sRf (S := (nA S_831 q_927 15 40)) (g := 1275) (a := h) (v := (some q_927)) (by decide) hv_920)
  have hv_1020 : hR S_930 1234 h = (some q_342) := by rw [eS_931]; exact (rd_sRf (S := (nA S_831 q_927 15 40)) (g := 1275) (a := h) (v := (some q_927)) (by decide) hv_921)
  have hv_1021 : hR S_930 1241 h = (some q_509) := by rw [eS_931]; exact (rd_sRf (S := (nA S_831 q_927 15 40)) (g := 1275) (a := h) (v := (some q_927)) (by decide) hv_922)
  have hv_1022 : hR S_930 1246 h = (some q_512) := by rw [eS_931]; exact (rd_sRf (S := (nA S_831 q_927 15 40)) (g := 1275) (a := h) (v := (some q_927)) (by decide) hv_923)
  have hv_1023 : hR S_930 1256 h = (some q_609) := by rw [eS_931]; exact (rd_sRf (S := (nA S_831 q_927 15 40)) (g := 1275) (a := h) (v := (some q_927)) (by decide) hv_924)
  have hv_1024 : hR S_930 1257 h = (some q_613) := by rw [eS_931]; exact (rd_sRf (S := (nA S_831 q_927 15 40)) (g := 1275) (a := h) (v := (some q_927)) (by decide) hv_925)
  have hf_1025 : Fm (fun f9 b9 => (f9 = 1244 ∧ b9 = h) ∨ (f9 = 1245 ∧ b9 = h)) (fun f9 b9 => b9 = h) (fun _ => False) S S_930 := by rw [eS_931]; exact hf_932
  have loop_1030 : ∀ (m9 j1 : Nat) (S_1027 : Hp), j1 + m9 = 4096 → Fm (fun _ _ => False) (fun _ _ => False) (fun b9 => b9 = q_30) S_930 S_1027 → J x (0 + 1 + 1 + 1 + 1 + 1 + 1 + 1 + 1 + 1 + 1 + 1 + 1 + 1 + 1 + 1 + 1 + 1 + 1 + 1 + 1 + 1 + 1 + 1 + 1 + 1 + 1 + 1 + 1 + 1 + 1 + 1 + 1 + 1 + 1 + 1 + 1 + 1 + 1 + 1 + 1) (0 + 192 + 960 + 17 + 17 + 119 + 4096 + 400 + 2000 + 12800 + 16 + 16 + 16 + 16 + 256 + 16 + 16 + 16 + 24000 + 12000 + 7 + 6 + 8000 + 6000 + 64000 + 768000 + 12 + 12 + 60008 + 12 + 20 + 17 + 148 + 148 + 640 + 640 + 12 + 400 + 400 + 40 + 40) S_1027 [(1, .int (nI j1)), (0, .ref h)] 343 [] := by
    intro m9
    induction m9 with
    | zero =>
      intro j1 S_1027  hi_1031 hl_1028 
      have hz_1032 : ∀ j, aI S_1027 q_100 j = 0 := fun j9 => (hl_1028.ai hm_935 (fun q9 => (fun e9 => absurd ((hk_936).symm.trans ((congrArg (hK _) e9).trans hk_972)) (by decide)) q9) j9).trans (hz_938 j9)
      have hz_1033 : ∀ j, aI S_1027 q_151 j = 0 := fun j9 => (hl_1028.ai hm_939 (fun q9 => (fun e9 => absurd ((hk_940).symm.trans ((congrArg (hK _) e9).trans hk_972)) (by decide)) q9) j9).trans (hz_942 j9)
      have hz_1034 : ∀ j, aI S_1027 q_196 j = 0 := fun j9 => (hl_1028.ai hm_943 (fun q9 => (fun e9 => absurd ((hk_944).symm.trans ((congrArg (hK _) e9).trans hk_972)) (by decide)) q9) j9).trans (hz_946 j9)
      have hz_1035 : ∀ j, aI S_1027 q_199 j = 0 := fun j9 => (hl_1028.ai hm_947 (fun q9 => (Ne.symm (ne_of_nin hq_200 (mem_old hm_176))) q9) j9).trans (hz_950 j9)
      have hz_1036 : ∀ j, aI S_1027 q_23 j = 0 := fun j9 => (hl_1028.ai hm_951 (fun q9 => (fun e9 => absurd ((hk_952).symm.trans ((congrArg (hK _) e9).trans hk_972)) (by decide)) q9) j9).trans (hz_954 j9)
      have hz_1037 : ∀ j, aI S_1027 q_258 j = 0 := fun j9 => (hl_1028.ai hm_955 (fun q9 => (fun e9 => absurd ((hk_956).symm.trans ((congrArg (hK _) e9).trans hk_972)) (by decide)) q9) j9).trans (hz_958 j9)
      have hz_1038 : ∀ j, aI S_1027 q_26 j = 0 := fun j9 => (hl_1028.ai hm_959 (fun q9 => (ne_of_nin hq_31 mem_new) q9) j9).trans (hz_962 j9)
      have hz_1039 : ∀ j, aI S_1027 q_261 j = 0 := fun j9 => (hl_1028.ai hm_963 (fun q9 => (Ne.symm (ne_of_nin hq_262 (mem_old hm_236))) q9) j9).trans (hz_966 j9)
      have hz_1040 : ∀ j, aI S_1027 q_265 j = 0 := fun j9 => (hl_1028.ai hm_967 (fun q9 => (Ne.symm (ne_of_nin hq_266 (mem_old (mem_old hm_236)))) q9) j9).trans (hz_970 j9)
      have hz_1041 : ∀ j, aI S_1027 q_335 j = 0 := fun j9 => (hl_1028.ai hm_975 (fun q9 => (fun e9 => absurd ((hk_976).symm.trans ((congrArg (hK _) e9).trans hk_972)) (by decide)) q9) j9).trans (hz_978 j9)
      have hz_1042 : ∀ j, aI S_1027 q_342 j = 0 := fun j9 => (hl_1028.ai hm_979 (fun q9 => (fun e9 => absurd ((hk_980).symm.trans ((congrArg (hK _) e9).trans hk_972)) (by decide)) q9) j9).trans (hz_982 j9)
      have hz_1043 : ∀ j, aI S_1027 q_509 j = 0 := fun j9 => (hl_1028.ai hm_983 (fun q9 => (fun e9 => absurd ((hk_984).symm.trans ((congrArg (hK _) e9).trans hk_972)) (by decide)) q9) j9).trans (hz_986 j9)
      have hz_1044 : ∀ j, aI S_1027 q_512 j = 0 := fun j9 => (hl_1028.ai hm_987 (fun q9 => (Ne.symm (ne_of_nin hq_513 (mem_old hm_474))) q9) j9).trans (hz_990 j9)
      have hz_1045 : ∀ j, aI S_1027 q_609 j = 0 := fun j9 => (hl_1028.ai hm_991 (fun q9 => (Ne.symm (ne_of_nin hq_610 (mem_old hm_561))) q9) j9).trans (hz_994 j9)
      have hz_1046 : ∀ j, aI S_1027 q_613 j = 0 := fun j9 => (hl_1028.ai hm_995 (fun q9 => (Ne.symm (ne_of_nin hq_614 (mem_old (mem_old hm_561)))) q9) j9).trans (hz_998 j9)
      have hz_1047 : ∀ j, aI S_1027 q_8 j = 0 := fun j9 => (hl_1028.ai hm_999 (fun q9 => (fun e9 => absurd ((hk_1000).symm.trans ((congrArg (hK _) e9).trans hk_972)) (by decide)) q9) j9).trans (hz_1002 j9)
      have hz_1048 : ∀ j, aI S_1027 q_97 j = 0 := fun j9 => (hl_1028.ai hm_1003 (fun q9 => (fun e9 => absurd ((hk_1004).symm.trans ((congrArg (hK _) e9).trans hk_972)) (by decide)) q9) j9).trans (hz_1006 j9)
      have hm_1049 : h ∈ hL S_1027 := hl_1028.mem hm_933
      have hk_1050 : Kd S_1027 h 12 := hl_1028.kd hm_933 hk_934
      have hm_1051 : q_100 ∈ hL S_1027 := hl_1028.mem hm_935
      have hk_1052 : Kd S_1027 q_100 17 := hl_1028.kd hm_935 hk_936
      have hn_1053 : Ln S_1027 q_100 16 := hl_1028.ln hm_935 hn_937
      have hm_1054 : q_151 ∈ hL S_1027 := hl_1028.mem hm_939
      have hk_1055 : Kd S_1027 q_151 17 := hl_1028.kd hm_939 hk_940
      have hn_1056 : Ln S_1027 q_151 16 := hl_1028.ln hm_939 hn_941
      have hm_1057 : q_196 ∈ hL S_1027 := hl_1028.mem hm_943
      have hk_1058 : Kd S_1027 q_196 17 := hl_1028.kd hm_943 hk_944
      have hn_1059 : Ln S_1027 q_196 16 := hl_1028.ln hm_943 hn_945
      have hm_1060 : q_199 ∈ hL S_1027 := hl_1028.mem hm_947
      have hk_1061 : Kd S_1027 q_199 14 := hl_1028.kd hm_947 hk_948
      have hn_1062 : Ln S_1027 q_199 16 := hl_1028.ln hm_947 hn_949
      have hm_1063 : q_23 ∈ hL S_1027 := hl_1028.mem hm_951
      have hk_1064 : Kd S_1027 q_23 17 := hl_1028.kd hm_951 hk_952
      have hn_1065 : Ln S_1027 q_23 17 := hl_1028.ln hm_951 hn_953
      have hm_1066 : q_258 ∈ hL S_1027 := hl_1028.mem hm_955
      have hk_1067 : Kd S_1027 q_258 13 := hl_1028.kd hm_955 hk_956
      have hn_1068 : Ln S_1027 q_258 12000 := hl_1028.ln hm_955 hn_957
      have hm_1069 : q_26 ∈ hL S_1027 := hl_1028.mem hm_959
      have hk_1070 : Kd S_1027 q_26 14 := hl_1028.kd hm_959 hk_960
      have hn_1071 : Ln S_1027 q_26 119 := hl_1028.ln hm_959 hn_961
      have hm_1072 : q_261 ∈ hL S_1027 := hl_1028.mem hm_963
      have hk_1073 : Kd S_1027 q_261 14 := hl_1028.kd hm_963 hk_964
      have hn_1074 : Ln S_1027 q_261 7 := hl_1028.ln hm_963 hn_965
      have hm_1075 : q_265 ∈ hL S_1027 := hl_1028.mem hm_967
      have hk_1076 : Kd S_1027 q_265 14 := hl_1028.kd hm_967 hk_968
      have hn_1077 : Ln S_1027 q_265 6 := hl_1028.ln hm_967 hn_969
      have hm_1078 : q_30 ∈ hL S_1027 := hl_1028.mem hm_971
      have hk_1079 : Kd S_1027 q_30 14 := hl_1028.kd hm_971 hk_972
      have hn_1080 : Ln S_1027 q_30 4096 := hl_1028.ln hm_971 hn_973
      have hm_1081 : q_335 ∈ hL S_1027 := hl_1028.mem hm_975
      have hk_1082 : Kd S_1027 q_335 13 := hl_1028.kd hm_975 hk_976
      have hn_1083 : Ln S_1027 q_335 8000 := hl_1028.ln hm_975 hn_977
      have hm_1084 : q_342 ∈ hL S_1027 := hl_1028.mem hm_979
      have hk_1085 : Kd S_1027 q_342 13 := hl_1028.kd hm_979 hk_980
      have hn_1086 : Ln S_1027 q_342 64000 := hl_1028.ln hm_979 hn_981
      have hm_1087 : q_509 ∈ hL S_1027 := hl_1028.mem hm_983
      have hk_1088 : Kd S_1027 q_509 13 := hl_1028.kd hm_983 hk_984
      have hn_1089 : Ln S_1027 q_509 60008 := hl_1028.ln hm_983 hn_985
      have hm_1090 : q_512 ∈ hL S_1027 := hl_1028.mem hm_987
      have hk_1091 : Kd S_1027 q_512 14 := hl_1028.kd hm_987 hk_988
      have hn_1092 : Ln S_1027 q_512 12 := hl_1028.ln hm_987 hn_989
      have hm_1093 : q_609 ∈ hL S_1027 := hl_1028.mem hm_991
      have hk_1094 : Kd S_1027 q_609 14 := hl_1028.kd hm_991 hk_992
      have hn_1095 : Ln S_1027 q_609 148 := hl_1028.ln hm_991 hn_993
      have hm_1096 : q_613 ∈ hL S_1027 := hl_1028.mem hm_995
      have hk_1097 : Kd S_1027 q_613 14 := hl_1028.kd hm_995 hk_996
      have hn_1098 : Ln S_1027 q_613 148 := hl_1028.ln hm_995 hn_997
      have hm_1099 : q_8 ∈ hL S_1027 := hl_1028.mem hm_999
      have hk_1100 : Kd S_1027 q_8 17 := hl_1028.kd hm_999 hk_1000
      have hn_1101 : Ln S_1027 q_8 17 := hl_1028.ln hm_999 hn_1001
      have hm_1102 : q_97 ∈ hL S_1027 := hl_1028.mem hm_1003
      have hk_1103 : Kd S_1027 q_97 17 := hl_1028.kd hm_1003 hk_1004
      have hn_1104 : Ln S_1027 q_97 16 := hl_1028.ln hm_1003 hn_1005
      have hv_1105 : hR S_1027 1202 h = (some q_8) := hl_1028.fr hm_933 (fun h9 => h9) hv_1007
      have hv_1106 : hR S_1027 1203 h = (some q_23) := hl_1028.fr hm_933 (fun h9 => h9) hv_1008
      have hv_1107 : hR S_1027 1204 h = (some q_26) := hl_1028.fr hm_933 (fun h9 => h9) hv_1009
      have hv_1108 : hR S_1027 1205 h = (some q_30) := hl_1028.fr hm_933 (fun h9 => h9) hv_1010
      have hv_1109 : hR S_1027 1210 h = (some q_97) := hl_1028.fr hm_933 (fun h9 => h9) hv_1011
      have hv_1110 : hR S_1027 1211 h = (some q_100) := hl_1028.fr hm_933 (fun h9 => h9) hv_1012
      have hv_1111 : hR S_1027 1215 h = (some q_151) := hl_1028.fr hm_933 (fun h9 => h9) hv_1013
      have hv_1112 : hR S_1027 1216 h = (some q_196) := hl_1028.fr hm_933 (fun h9 => h9) hv_1014
      have hv_1113 : hR S_1027 1217 h = (some q_199) := hl_1028.fr hm_933 (fun h9 => h9) hv_1015
      have hv_1114 : hR S_1027 1219 h = (some q_258) := hl_1028.fr hm_933 (fun h9 => h9) hv_1016
      have hv_1115 : hR S_1027 1220 h = (some q_261) := hl_1028.fr hm_933 (fun h9 => h9) hv_1017
      have hv_1116 : hR S_1027 1221 h = (some q_265) := hl_1028.fr hm_933 (fun h9 => h9) hv_1018
      have hv_1117 : hR S_1027 1223 h = (some q_335) := hl_1028.fr hm_933 (fun h9 => h9) hv_1019
      have hv_1118 : hR S_1027 1234 h = (some q_342) := hl_1028.fr hm_933 (fun h9 => h9) hv_1020
      have hv_1119 : hR S_1027 1241 h = (some q_509) := hl_1028.fr hm_933 (fun h9 => h9) hv_1021
      have hv_1120 : hR S_1027 1246 h = (some q_512) := hl_1028.fr hm_933 (fun h9 => h9) hv_1022
      have hv_1121 : hR S_1027 1256 h = (some q_609) := hl_1028.fr hm_933 (fun h9 => h9) hv_1023
      have hv_1122 : hR S_1027 1257 h = (some q_613) := hl_1028.fr hm_933 (fun h9 => h9) hv_1024
      have hf_1123 : Fm (fun f9 b9 => (f9 = 1244 ∧ b9 = h) ∨ (f9 = 1245 ∧ b9 = h)) (fun f9 b9 => b9 = h) (fun _ => False) S S_1027 := hf_1025.then hl_1028 (fun a9 ha9 => ⟨(fun f9 h9 => h9.elim), (fun f9 h9 => h9.elim), (fun h9 => (fun h8 => absurd (h8 ▸ ha9) hz_33) h9)⟩)
      refine j_iload_n C dX12_init_343 rfl 0 rfl ?_
      refine j_sipush (v := 4096) C dX12_init_344 (by decide) ?_
      refine j_ic_ge (tgt := 363) C dX12_init_347 (by decide) (fun c_347 => ?_) (fun c_347 => absurd (nI_le (a := 4096) (by omega) (by omega)) c_347)
      refine j_aload_n C dX12_init_363 rfl 1 rfl ?_
      refine j_getr (f := 1202) (v := q_8) C flX12_16 dX12_init_364 hm_1049 hk_1050 (by decide) rfl hv_1105 ?_
      show J _ _ _ _ _ 367 _
      refine j_bipush (v := 16) C dX12_init_367 (by decide) ?_
      refine j_iconst (v := 1) C dX12_init_369 (by decide) ?_
      refine j_zast (j := 16) C dX12_init_370 hm_1099 hk_1100 (inr_of (n := 17) hn_1101 (vp_lit (by decide))) (by decide) ?_
      refine j_aload_n C dX12_init_371 rfl 1 rfl ?_
      refine j_getr (f := 1204) (v := q_26) C flX12_23 dX12_init_372 hm_1049 hk_1050 (by decide) rfl hv_1107 ?_
      refine j_bipush (v := 113) C dX12_init_375 (by decide) ?_
      refine j_sipush (v := 720) C dX12_init_377 (by decide) ?_
      refine j_iast (j := 113) C dX12_init_380 hm_1069 hk_1070 (inr_of (n := 119) hn_1071 (vp_lit (by decide))) (by decide) ?_
      show J _ _ _ _ _ 381 _
      refine j_aload_n C dX12_init_381 rfl 1 rfl ?_
      refine j_getr (f := 1204) (v := q_26) C flX12_23 dX12_init_382 hm_1049 hk_1050 (by decide) rfl hv_1107 ?_
      refine j_bipush (v := 114) C dX12_init_385 (by decide) ?_
      refine j_bipush (v := 8) C dX12_init_387 (by decide) ?_
      refine j_iast (j := 114) C dX12_init_389 hm_1069 hk_1070 (inr_of (n := 119) hn_1071 (vp_lit (by decide))) (by decide) ?_
      refine j_aload_n C dX12_init_390 rfl 1 rfl ?_
      refine j_iconst (v := (-1)) C dX12_init_391 (by decide) ?_
      refine j_puti (f := 1244) C flX12_136 (by decide) rfl rfl dX12_init_392 hm_1049 hk_1050 rfl ?_
      show J _ _ _ _ _ 395 _
      refine j_aload_n C dX12_init_395 rfl 1 rfl ?_
      refine j_iconst (v := (-1)) C dX12_init_396 (by decide) ?_
      refine j_puti (f := 1245) C flX12_140 (by decide) rfl rfl dX12_init_397 hm_1049 hk_1050 rfl ?_
      refine j_aload_n C dX12_init_400 rfl 1 rfl ?_
      have hf_1124 : Fm (fun f9 b9 => (f9 = 1244 ∧ b9 = h) ∨ (f9 = 1245 ∧ b9 = h)) (fun f9 b9 => b9 = h) (fun _ => False) S (sI (sI (tI (tI (tI S_1027 q_8 16 (vp_nar .boolean 1)) q_26 113 (720 : Int32)) q_26 114 (8 : Int32)) 1244 h (-1)) 1245 h (-1)) := (((((hf_1123.tI _ _ (fun h9 => absurd h9 hz_11)).tI _ _ (fun h9 => absurd h9 hz_29)).tI _ _ (fun h9 => absurd h9 hz_29)).sI _ (fun _ => (Or.inl ⟨rfl, rfl⟩))).sI _ (fun _ => (Or.inr ⟨rfl, rfl⟩)))
      refine j_callV (ci := 12) C [] [] mlX12_143 mcX12_readCodes (c_X12_readCodes (sI (sI (tI (tI (tI S_1027 q_8 16 (vp_nar .boolean 1)) q_26 113 (720 : Int32)) q_26 114 (8 : Int32)) 1244 h (-1)) 1245 h (-1)) h q_609 q_613 hm_1049 hk_1050 hv_1121 hv_1122 hm_1093 hk_1094 hn_1095 hm_1096 hk_1097 hn_1098) hm_1049 hk_1050 rfl (M.rm (by decide) (by decide) (Nat.le_of_ble_eq_true rfl) (Nat.le_of_ble_eq_true rfl)) rfl rfl (Nat.le_of_ble_eq_true rfl) dX12_init_401 (fun r_1125 S_1126 hp_1127 => ?_)
      obtain ⟨rfl, hf_1128⟩ := hp_1127
      refine J.eq (st' := []) rfl rfl rfl ?_
      have hz_1129 : ∀ j, aI S_1126 q_100 j = 0 := fun j9 => (hf_1128.ai hm_1051 (fun h9 => h9.elim (fun q9 => (fun e9 => absurd ((hk_1052).symm.trans ((congrArg (hK _) e9).trans hk_1094)) (by decide)) q9) (fun q9 => (fun e9 => absurd ((hk_1052).symm.trans ((congrArg (hK _) e9).trans hk_1097)) (by decide)) q9)) j9).trans ((fun j9 => rd_tIa (fun e9 => absurd ((hk_1052).symm.trans ((congrArg (hK _) e9).trans hk_1070)) (by decide)) ((fun j9 => rd_tIa (fun e9 => absurd ((hk_1052).symm.trans ((congrArg (hK _) e9).trans hk_1070)) (by decide)) ((fun j9 => rd_tIa (Ne.symm (ne_of_nin hq_101 (mem_old hm_88))) (hz_1032 j9)) j9)) j9)) j9)
      have hz_1130 : ∀ j, aI S_1126 q_151 j = 0 := fun j9 => (hf_1128.ai hm_1054 (fun h9 => h9.elim (fun q9 => (fun e9 => absurd ((hk_1055).symm.trans ((congrArg (hK _) e9).trans hk_1094)) (by decide)) q9) (fun q9 => (fun e9 => absurd ((hk_1055).symm.trans ((congrArg (hK _) e9).trans hk_1097)) (by decide)) q9)) j9).trans ((fun j9 => rd_tIa (fun e9 => absurd ((hk_1055).symm.trans ((congrArg (hK _) e9).trans hk_1070)) (by decide)) ((fun j9 => rd_tIa (fun e9 => absurd ((hk_1055).symm.trans ((congrArg (hK _) e9).trans hk_1070)) (by decide)) ((fun j9 => rd_tIa (Ne.symm (ne_of_nin hq_152 (mem_old (mem_old hm_129)))) (hz_1033 j9)) j9)) j9)) j9)
      have hz_1131 : ∀ j, aI S_1126 q_196 j = 0 := fun j9 => (hf_1128.ai hm_1057 (fun h9 => h9.elim (fun q9 => (fun e9 => absurd ((hk_1058).symm.trans ((congrArg (hK _) e9).trans hk_1094)) (by decide)) q9) (fun q9 => (fun e9 => absurd ((hk_1058).symm.trans ((congrArg (hK _) e9).trans hk_1097)) (by decide)) q9)) j9).trans ((fun j9 => rd_tIa (fun e9 => absurd ((hk_1058).symm.trans ((congrArg (hK _) e9).trans hk_1070)) (by decide)) ((fun j9 => rd_tIa (fun e9 => absurd ((hk_1058).symm.trans ((congrArg (hK _) e9).trans hk_1070)) (by decide)) ((fun j9 => rd_tIa (Ne.symm (ne_of_nin hq_197 hm_180)) (hz_1034 j9)) j9)) j9)) j9)
      have hz_1132 : ∀ j, aI S_1126 q_199 j = 0 := fun j9 => (hf_1128.ai hm_1060 (fun h9 => h9.elim (fun q9 => (ne_of_nin hq_610 (mem_old hm_537)) q9) (fun q9 => (ne_of_nin hq_614 (mem_old (mem_old hm_537))) q9)) j9).trans ((fun j9 => rd_tIa (Ne.symm (ne_of_nin hq_200 (mem_old hm_172))) ((fun j9 => rd_tIa (Ne.symm (ne_of_nin hq_200 (mem_old hm_172))) ((fun j9 => rd_tIa (fun e9 => absurd ((hk_1061).symm.trans ((congrArg (hK _) e9).trans hk_1100)) (by decide)) (hz_1035 j9)) j9)) j9)) j9)
      have hz_1133 : ∀ j, aI S_1126 q_23 j = 0 := fun j9 => (hf_1128.ai hm_1063 (fun h9 => h9.elim (fun q9 => (fun e9 => absurd ((hk_1064).symm.trans ((congrArg (hK _) e9).trans hk_1094)) (by decide)) q9) (fun q9 => (fun e9 => absurd ((hk_1064).symm.trans ((congrArg (hK _) e9).trans hk_1097)) (by decide)) q9)) j9).trans ((fun j9 => rd_tIa (fun e9 => absurd ((hk_1064).symm.trans ((congrArg (hK _) e9).trans hk_1070)) (by decide)) ((fun j9 => rd_tIa (fun e9 => absurd ((hk_1064).symm.trans ((congrArg (hK _) e9).trans hk_1070)) (by decide)) ((fun j9 => rd_tIa (Ne.symm (ne_of_nin hq_24 hm_17)) (hz_1036 j9)) j9)) j9)) j9)
      have hz_1134 : ∀ j, aI S_1126 q_258 j = 0 := fun j9 => (hf_1128.ai hm_1066 (fun h9 => h9.elim (fun q9 => (fun e9 => absurd ((hk_1067).symm.trans ((congrArg (hK _) e9).trans hk_1094)) (by decide)) q9) (fun q9 => (fun e9 => absurd ((hk_1067).symm.trans ((congrArg (hK _) e9).trans hk_1097)) (by decide)) q9)) j9).trans ((fun j9 => rd_tIa (fun e9 => absurd ((hk_1067).symm.trans ((congrArg (hK _) e9).trans hk_1070)) (by decide)) ((fun j9 => rd_tIa (fun e9 => absurd ((hk_1067).symm.trans ((congrArg (hK _) e9).trans hk_1070)) (by decide)) ((fun j9 => rd_tIa (fun e9 => absurd ((hk_1067).symm.trans ((congrArg (hK _) e9).trans hk_1100)) (by decide)) (hz_1037 j9)) j9)) j9)) j9)
      have hz_1135 : ∀ j, aI S_1126 q_261 j = 0 := fun j9 => (hf_1128.ai hm_1072 (fun h9 => h9.elim (fun q9 => (ne_of_nin hq_610 (mem_old hm_553)) q9) (fun q9 => (ne_of_nin hq_614 (mem_old (mem_old hm_553))) q9)) j9).trans ((fun j9 => rd_tIa (Ne.symm (ne_of_nin hq_262 (mem_old hm_232))) ((fun j9 => rd_tIa (Ne.symm (ne_of_nin hq_262 (mem_old hm_232))) ((fun j9 => rd_tIa (fun e9 => absurd ((hk_1073).symm.trans ((congrArg (hK _) e9).trans hk_1100)) (by decide)) (hz_1039 j9)) j9)) j9)) j9)
      have hz_1136 : ∀ j, aI S_1126 q_265 j = 0 := fun j9 => (hf_1128.ai hm_1075 (fun h9 => h9.elim (fun q9 => (ne_of_nin hq_610 (mem_old hm_557)) q9) (fun q9 => (ne_of_nin hq_614 (mem_old (mem_old hm_557))) q9)) j9).trans ((fun j9 => rd_tIa (Ne.symm (ne_of_nin hq_266 (mem_old (mem_old hm_232)))) ((fun j9 => rd_tIa (Ne.symm (ne_of_nin hq_266 (mem_old (mem_old hm_232)))) ((fun j9 => rd_tIa (fun e9 => absurd ((hk_1076).symm.trans ((congrArg (hK _) e9).trans hk_1100)) (by decide)) (hz_1040 j9)) j9)) j9)) j9)
      have hz_1137 : ∀ j, aI S_1126 q_335 j = 0 := fun j9 => (hf_1128.ai hm_1081 (fun h9 => h9.elim (fun q9 => (fun e9 => absurd ((hk_1082).symm.trans ((congrArg (hK _) e9).trans hk_1094)) (by decide)) q9) (fun q9 => (fun e9 => absurd ((hk_1082).symm.trans ((congrArg (hK _) e9).trans hk_1097)) (by decide)) q9)) j9).trans ((fun j9 => rd_tIa (fun e9 => absurd ((hk_1082).symm.trans ((congrArg (hK _) e9).trans hk_1070)) (by decide)) ((fun j9 => rd_tIa (fun e9 => absurd ((hk_1082).symm.trans ((congrArg (hK _) e9).trans hk_1070)) (by decide)) ((fun j9 => rd_tIa (fun e9 => absurd ((hk_1082).symm.trans ((congrArg (hK _) e9).trans hk_1100)) (by decide)) (hz_1041 j9)) j9)) j9)) j9)
      have hz_1138 : ∀ j, aI S_1126 q_342 j = 0 := fun j9 => (hf_1128.ai hm_1084 (fun h9 => h9.elim (fun q9 => (fun e9 => absurd ((hk_1085).symm.trans ((congrArg (hK _) e9).trans hk_1094)) (by decide)) q9) (fun q9 => (fun e9 => absurd ((hk_1085).symm.trans ((congrArg (hK _) e9).trans hk_1097)) (by decide)) q9)) j9).trans ((fun j9 => rd_tIa (fun e9 => absurd ((hk_1085).symm.trans ((congrArg (hK _) e9).trans hk_1070)) (by decide)) ((fun j9 => rd_tIa (fun e9 => absurd ((hk_1085).symm.trans ((congrArg (hK _) e9).trans hk_1070)) (by decide)) ((fun j9 => rd_tIa (fun e9 => absurd ((hk_1085).symm.trans ((congrArg (hK _) e9).trans hk_1100)) (by decide)) (hz_1042 j9)) j9)) j9)) j9)
      have hz_1139 : ∀ j, aI S_1126 q_509 j = 0 := fun j9 => (hf_1128.ai hm_1087 (fun h9 => h9.elim (fun q9 => (fun e9 => absurd ((hk_1088).symm.trans ((congrArg (hK _) e9).trans hk_1094)) (by decide)) q9) (fun q9 => (fun e9 => absurd ((hk_1088).symm.trans ((congrArg (hK _) e9).trans hk_1097)) (by decide)) q9)) j9).trans ((fun j9 => rd_tIa (fun e9 => absurd ((hk_1088).symm.trans ((congrArg (hK _) e9).trans hk_1070)) (by decide)) ((fun j9 => rd_tIa (fun e9 => absurd ((hk_1088).symm.trans ((congrArg (hK _) e9).trans hk_1070)) (by decide)) ((fun j9 => rd_tIa (fun e9 => absurd ((hk_1088).symm.trans ((congrArg (hK _) e9).trans hk_1100)) (by decide)) (hz_1043 j9)) j9)) j9)) j9)
      have hz_1140 : ∀ j, aI S_1126 q_512 j = 0 := fun j9 => (hf_1128.ai hm_1090 (fun h9 => h9.elim (fun q9 => (ne_of_nin hq_610 (mem_old hm_577)) q9) (fun q9 => (ne_of_nin hq_614 (mem_old (mem_old hm_577))) q9)) j9).trans ((fun j9 => rd_tIa (Ne.symm (ne_of_nin hq_513 (mem_old hm_462))) ((fun j9 => rd_tIa (Ne.symm (ne_of_nin hq_513 (mem_old hm_462))) ((fun j9 => rd_tIa (fun e9 => absurd ((hk_1091).symm.trans ((congrArg (hK _) e9).trans hk_1100)) (by decide)) (hz_1044 j9)) j9)) j9)) j9)
      have hz_1141 : ∀ j, aI S_1126 q_97 j = 0 := fun j9 => (hf_1128.ai hm_1102 (fun h9 => h9.elim (fun q9 => (fun e9 => absurd ((hk_1103).symm.trans ((congrArg (hK _) e9).trans hk_1094)) (by decide)) q9) (fun q9 => (fun e9 => absurd ((hk_1103).symm.trans ((congrArg (hK _) e9).trans hk_1097)) (by decide)) q9)) j9).trans ((fun j9 => rd_tIa (fun e9 => absurd ((hk_1103).symm.trans ((congrArg (hK _) e9).trans hk_1070)) (by decide)) ((fun j9 => rd_tIa (fun e9 => absurd ((hk_1103).symm.trans ((congrArg (hK _) e9).trans hk_1070)) (by decide)) ((fun j9 => rd_tIa (Ne.symm (ne_of_nin hq_98 hm_88)) (hz_1048 j9)) j9)) j9)) j9)
      have hy_1142 : ∀ j, j < 16 → aI S_1126 q_8 j = 0 := fun j9 h9 => (hf_1128.ai hm_1099 (fun h9 => h9.elim (fun q9 => (fun e9 => absurd ((hk_1100).symm.trans ((congrArg (hK _) e9).trans hk_1094)) (by decide)) q9) (fun q9 => (fun e9 => absurd ((hk_1100).symm.trans ((congrArg (hK _) e9).trans hk_1097)) (by decide)) q9)) j9).trans ((fun j9 h9 => rd_tIa (fun e9 => absurd ((hk_1100).symm.trans ((congrArg (hK _) e9).trans hk_1070)) (by decide)) ((fun j9 h9 => rd_tIa (fun e9 => absurd ((hk_1100).symm.trans ((congrArg (hK _) e9).trans hk_1070)) (by decide)) ((fun j9 h9 => rd_tIj (j := 16) (by omega) ((fun j9 _ => hz_1047 j9) j9 h9)) j9 h9)) j9 h9)) j9 h9)
      have hm_1143 : h ∈ hL S_1126 := hf_1128.mem hm_1049
      have hk_1144 : Kd S_1126 h 12 := hf_1128.kd hm_1049 hk_1050
      have hm_1145 : q_100 ∈ hL S_1126 := hf_1128.mem hm_1051
      have hk_1146 : Kd S_1126 q_100 17 := hf_1128.kd hm_1051 hk_1052
      have hn_1147 : Ln S_1126 q_100 16 := hf_1128.ln hm_1051 hn_1053
      have hm_1148 : q_151 ∈ hL S_1126 := hf_1128.mem hm_1054
      have hk_1149 : Kd S_1126 q_151 17 := hf_1128.kd hm_1054 hk_1055
      have hn_1150 : Ln S_1126 q_151 16 := hf_1128.ln hm_1054 hn_1056
      have hm_1151 : q_196 ∈ hL S_1126 := hf_1128.mem hm_1057
      have hk_1152 : Kd S_1126 q_196 17 := hf_1128.kd hm_1057 hk_1058
      have hn_1153 : Ln S_1126 q_196 16 := hf_1128.ln hm_1057 hn_1059
      have hm_1154 : q_199 ∈ hL S_1126 := hf_1128.mem hm_1060
      have hk_1155 : Kd S_1126 q_199 14 := hf_1128.kd hm_1060 hk_1061
      have hn_1156 : Ln S_1126 q_199 16 := hf_1128.ln hm_1060 hn_1062
      have hm_1157 : q_23 ∈ hL S_1126 := hf_1128.mem hm_1063
      have hk_1158 : Kd S_1126 q_23 17 := hf_1128.kd hm_1063 hk_1064
      have hn_1159 : Ln S_1126 q_23 17 := hf_1128.ln hm_1063 hn_1065
      have hm_1160 : q_258 ∈ hL S_1126 := hf_1128.mem hm_1066
      have hk_1161 : Kd S_1126 q_258 13 := hf_1128.kd hm_1066 hk_1067
      have hn_1162 : Ln S_1126 q_258 12000 := hf_1128.ln hm_1066 hn_1068
      have hm_1163 : q_26 ∈ hL S_1126 := hf_1128.mem hm_1069
      have hk_1164 : Kd S_1126 q_26 14 := hf_1128.kd hm_1069 hk_1070
      have hn_1165 : Ln S_1126 q_26 119 := hf_1128.ln hm_1069 hn_1071
      have hm_1166 : q_261 ∈ hL S_1126 := hf_1128.mem hm_1072
      have hk_1167 : Kd S_1126 q_261 14 := hf_1128.kd hm_1072 hk_1073
      have hn_1168 : Ln S_1126 q_261 7 := hf_1128.ln hm_1072 hn_1074
      have hm_1169 : q_265 ∈ hL S_1126 := hf_1128.mem hm_1075
      have hk_1170 : Kd S_1126 q_265 14 := hf_1128.kd hm_1075 hk_1076
      have hn_1171 : Ln S_1126 q_265 6 := hf_1128.ln hm_1075 hn_1077
      have hm_1172 : q_30 ∈ hL S_1126 := hf_1128.mem hm_1078
      have hk_1173 : Kd S_1126 q_30 14 := hf_1128.kd hm_1078 hk_1079
      have hn_1174 : Ln S_1126 q_30 4096 := hf_1128.ln hm_1078 hn_1080
      have hm_1175 : q_335 ∈ hL S_1126 := hf_1128.mem hm_1081
      have hk_1176 : Kd S_1126 q_335 13 := hf_1128.kd hm_1081 hk_1082
      have hn_1177 : Ln S_1126 q_335 8000 := hf_1128.ln hm_1081 hn_1083
      have hm_1178 : q_342 ∈ hL S_1126 := hf_1128.mem hm_1084
      have hk_1179 : Kd S_1126 q_342 13 := hf_1128.kd hm_1084 hk_1085
      have hn_1180 : Ln S_1126 q_342 64000 := hf_1128.ln hm_1084 hn_1086
      have hm_1181 : q_509 ∈ hL S_1126 := hf_1128.mem hm_1087
      have hk_1182 : Kd S_1126 q_509 13 := hf_1128.kd hm_1087 hk_1088
      have hn_1183 : Ln S_1126 q_509 60008 := hf_1128.ln hm_1087 hn_1089
      have hm_1184 : q_512 ∈ hL S_1126 := hf_1128.mem hm_1090
      have hk_1185 : Kd S_1126 q_512 14 := hf_1128.kd hm_1090 hk_1091
      have hn_1186 : Ln S_1126 q_512 12 := hf_1128.ln hm_1090 hn_1092
      have hm_1187 : q_609 ∈ hL S_1126 := hf_1128.mem hm_1093
      have hk_1188 : Kd S_1126 q_609 14 := hf_1128.kd hm_1093 hk_1094
      have hn_1189 : Ln S_1126 q_609 148 := hf_1128.ln hm_1093 hn_1095
      have hm_1190 : q_613 ∈ hL S_1126 := hf_1128.mem hm_1096
      have hk_1191 : Kd S_1126 q_613 14 := hf_1128.kd hm_1096 hk_1097
      have hn_1192 : Ln S_1126 q_613 148 := hf_1128.ln hm_1096 hn_1098
      have hm_1193 : q_8 ∈ hL S_1126 := hf_1128.mem hm_1099
      have hk_1194 : Kd S_1126 q_8 17 := hf_1128.kd hm_1099 hk_1100
      have hn_1195 : Ln S_1126 q_8 17 := hf_1128.ln hm_1099 hn_1101
      have hm_1196 : q_97 ∈ hL S_1126 := hf_1128.mem hm_1102
      have hk_1197 : Kd S_1126 q_97 17 := hf_1128.kd hm_1102 hk_1103
      have hn_1198 : Ln S_1126 q_97 16 := hf_1128.ln hm_1102 hn_1104
      have hv_1199 : hI S_1126 1244 h = (-1) := hf_1128.fi hm_1049 (fun h9 => h9) (rd_sIf (S := (sI (tI (tI (tI S_1027 q_8 16 (vp_nar .boolean 1)) q_26 113 (720 : Int32)) q_26 114 (8 : Int32)) 1244 h (-1))) (g := 1245) (a := h) (v := (-1)) (by decide) (rd_sI (S := (tI (tI (tI S_1027 q_8 16 (vp_nar .boolean 1)) q_26 113 (720 : Int32)) q_26 114 (8 : Int32))) (g := 1244) (a := h) (v := (-1))))
      have hv_1200 : hI S_1126 1245 h = (-1) := hf_1128.fi hm_1049 (fun h9 => h9) (rd_sI (S := (sI (tI (tI (tI S_1027 q_8 16 (vp_nar .boolean 1)) q_26 113 (720 : Int32)) q_26 114 (8 : Int32)) 1244 h (-1))) (g := 1245) (a := h) (v := (-1)))
      have hv_1201 : hR S_1126 1202 h = (some q_8) := hf_1128.fr hm_1049 (fun h9 => h9) hv_1105
      have hv_1202 : hR S_1126 1203 h = (some q_23) := hf_1128.fr hm_1049 (fun h9 => h9) hv_1106
      have hv_1203 : hR S_1126 1204 h = (some q_26) := hf_1128.fr hm_1049 (fun h9 => h9) hv_1107
      have hv_1204 : hR S_1126 1205 h = (some q_30) := hf_1128.fr hm_1049 (fun h9 => h9) hv_1108
      have hv_1205 : hR S_1126 1210 h = (some q_97) := hf_1128.fr hm_1049 (fun h9 => h9) hv_1109
      have hv_1206 : hR S_1126 1211 h = (some q_100) := hf_1128.fr hm_1049 (fun h9 => h9) hv_1110
      have hv_1207 : hR S_1126 1215 h = (some q_151) := hf_1128.fr hm_1049 (fun h9 => h9) hv_1111
      have hv_1208 : hR S_1126 1216 h = (some q_196) := hf_1128.fr hm_1049 (fun h9 => h9) hv_1112
      have hv_1209 : hR S_1126 1217 h = (some q_199) := hf_1128.fr hm_1049 (fun h9 => h9) hv_1113
      have hv_1210 : hR S_1126 1219 h = (some q_258) := hf_1128.fr hm_1049 (fun h9 => h9) hv_1114
      have hv_1211 : hR S_1126 1220 h = (some q_261) := hf_1128.fr hm_1049 (fun h9 => h9) hv_1115
      have hv_1212 : hR S_1126 1221 h = (some q_265) := hf_1128.fr hm_1049 (fun h9 => h9) hv_1116
      have hv_1213 : hR S_1126 1223 h = (some q_335) := hf_1128.fr hm_1049 (fun h9 => h9) hv_1117
      have hv_1214 : hR S_1126 1234 h = (some q_342) := hf_1128.fr hm_1049 (fun h9 => h9) hv_1118
      have hv_1215 : hR S_1126 1241 h = (some q_509) := hf_1128.fr hm_1049 (fun h9 => h9) hv_1119
      have hv_1216 : hR S_1126 1246 h = (some q_512) := hf_1128.fr hm_1049 (fun h9 => h9) hv_1120
      have hv_1217 : hR S_1126 1256 h = (some q_609) := hf_1128.fr hm_1049 (fun h9 => h9) hv_1121
      have hv_1218 : hR S_1126 1257 h = (some q_613) := hf_1128.fr hm_1049 (fun h9 => h9) hv_1122
      have hf_1219 : Fm (fun f9 b9 => (f9 = 1244 ∧ b9 = h) ∨ (f9 = 1245 ∧ b9 = h)) (fun f9 b9 => b9 = h) (fun _ => False) S S_1126 := hf_1124.then hf_1128 (fun a9 ha9 => ⟨(fun f9 h9 => h9.elim), (fun f9 h9 => h9.elim), (fun h9 => (fun h9 => h9.elim (fun h8 => absurd (h8 ▸ ha9) hz_612) (fun h8 => absurd (h8 ▸ ha9) hz_616)) h9)⟩)
      exact j_vret C M dX12_init_404 (Nat.le_of_ble_eq_true rfl) (Nat.le_of_ble_eq_true rfl) ⟨rfl, hf_1219, hv_1199, hv_1200, q_258, q_261, q_265, q_335, q_342, q_8, q_97, q_151, q_199, q_509, q_23, q_100, q_196, q_512, hz_260, hm_1160, hk_1161, hn_1162, hv_1210, hz_264, hm_1166, hk_1167, hn_1168, hv_1211, hz_1135, hz_268, hm_1169, hk_1170, hn_1171, hv_1212, hz_337, hm_1175, hk_1176, hn_1177, hv_1213, hz_345, hm_1178, hk_1179, hn_1180, hv_1214, hz_11, hm_1193, hk_1194, hn_1195, hv_1201, hy_1142, hz_99, hm_1196, hk_1197, hn_1198, hv_1205, hz_1141, hz_154, hm_1148, hk_1149, hn_1150, hv_1207, hz_1130, hz_202, hm_1154, hk_1155, hn_1156, hv_1209, hz_511, hm_1181, hk_1182, hn_1183, hv_1215, hz_25, hm_1157, hk_1158, hn_1159, hv_1202, hz_103, hm_1145, hk_1146, hn_1147, hv_1206, hz_198, hm_1151, hk_1152, hn_1153, hv_1208, hz_515, hm_1184, hk_1185, hn_1186, hv_1216⟩
    | succ m9 ih_1029 =>
      intro j1 S_1027  hi_1031 hl_1028 
      have hz_1220 : ∀ j, aI S_1027 q_100 j = 0 := fun j9 => (hl_1028.ai hm_935 (fun q9 => (fun e9 => absurd ((hk_936).symm.trans ((congrArg (hK _) e9).trans hk_972)) (by decide)) q9) j9).trans (hz_938 j9)
      have hz_1221 : ∀ j, aI S_1027 q_151 j = 0 := fun j9 => (hl_1028.ai hm_939 (fun q9 => (fun e9 => absurd ((hk_940).symm.trans ((congrArg (hK _) e9).trans hk_972)) (by decide)) q9) j9).trans (hz_942 j9)
      have hz_1222 : ∀ j, aI S_1027 q_196 j = 0 := fun j9 => (hl_1028.ai hm_943 (fun q9 => (fun e9 => absurd ((hk_944).symm.trans ((congrArg (hK _) e9).trans hk_972)) (by decide)) q9) j9).trans (hz_946 j9)
      have hz_1223 : ∀ j, aI S_1027 q_199 j = 0 := fun j9 => (hl_1028.ai hm_947 (fun q9 => (Ne.symm (ne_of_nin hq_200 (mem_old hm_176))) q9) j9).trans (hz_950 j9)
      have hz_1224 : ∀ j, aI S_1027 q_23 j = 0 := fun j9 => (hl_1028.ai hm_951 (fun q9 => (fun e9 => absurd ((hk_952).symm.trans ((congrArg (hK _) e9).trans hk_972)) (by decide)) q9) j9).trans (hz_954 j9)
      have hz_1225 : ∀ j, aI S_1027 q_258 j = 0 := fun j9 => (hl_1028.ai hm_955 (fun q9 => (fun e9 => absurd ((hk_956).symm.trans ((congrArg (hK _) e9).trans hk_972)) (by decide)) q9) j9).trans (hz_958 j9)
      have hz_1226 : ∀ j, aI S_1027 q_26 j = 0 := fun j9 => (hl_1028.ai hm_959 (fun q9 => (ne_of_nin hq_31 mem_new) q9) j9).trans (hz_962 j9)
      have hz_1227 : ∀ j, aI S_1027 q_261 j = 0 := fun j9 => (hl_1028.ai hm_963 (fun q9 => (Ne.symm (ne_of_nin hq_262 (mem_old hm_236))) q9) j9).trans (hz_966 j9)
      have hz_1228 : ∀ j, aI S_1027 q_265 j = 0 := fun j9 => (hl_1028.ai hm_967 (fun q9 => (Ne.symm (ne_of_nin hq_266 (mem_old (mem_old hm_236)))) q9) j9).trans (hz_970 j9)
      have hz_1229 : ∀ j, aI S_1027 q_335 j = 0 := fun j9 => (hl_1028.ai hm_975 (fun q9 => (fun e9 => absurd ((hk_976).symm.trans ((congrArg (hK _) e9).trans hk_972)) (by decide)) q9) j9).trans (hz_978 j9)
      have hz_1230 : ∀ j, aI S_1027 q_342 j = 0 := fun j9 => (hl_1028.ai hm_979 (fun q9 => (fun e9 => absurd ((hk_980).symm.trans ((congrArg (hK _) e9).trans hk_972)) (by decide)) q9) j9).trans (hz_982 j9)
      have hz_1231 : ∀ j, aI S_1027 q_509 j = 0 := fun j9 => (hl_1028.ai hm_983 (fun q9 => (fun e9 => absurd ((hk_984).symm.trans ((congrArg (hK _) e9).trans hk_972)) (by decide)) q9) j9).trans (hz_986 j9)
      have hz_1232 : ∀ j, aI S_1027 q_512 j = 0 := fun j9 => (hl_1028.ai hm_987 (fun q9 => (Ne.symm (ne_of_nin hq_513 (mem_old hm_474))) q9) j9).trans (hz_990 j9)
      have hz_1233 : ∀ j, aI S_1027 q_609 j = 0 := fun j9 => (hl_1028.ai hm_991 (fun q9 => (Ne.symm (ne_of_nin hq_610 (mem_old hm_561))) q9) j9).trans (hz_994 j9)
      have hz_1234 : ∀ j, aI S_1027 q_613 j = 0 := fun j9 => (hl_1028.ai hm_995 (fun q9 => (Ne.symm (ne_of_nin hq_614 (mem_old (mem_old hm_561)))) q9) j9).trans (hz_998 j9)
      have hz_1235 : ∀ j, aI S_1027 q_8 j = 0 := fun j9 => (hl_1028.ai hm_999 (fun q9 => (fun e9 => absurd ((hk_1000).symm.trans ((congrArg (hK _) e9).trans hk_972)) (by decide)) q9) j9).trans (hz_1002 j9)
      have hz_1236 : ∀ j, aI S_1027 q_97 j = 0 := fun j9 => (hl_1028.ai hm_1003 (fun q9 => (fun e9 => absurd ((hk_1004).symm.trans ((congrArg (hK _) e9).trans hk_972)) (by decide)) q9) j9).trans (hz_1006 j9)
      have hy_1237 : ∀ j, j < 16 → aI S_1027 q_8 j = 0 := fun j9 h9 => (hl_1028.ai hm_999 (fun q9 => (fun e9 => absurd ((hk_1000).symm.trans ((congrArg (hK _) e9).trans hk_972)) (by decide)) q9) j9).trans ((fun j9 _ => hz_1002 j9) j9 h9)
      have hm_1238 : h ∈ hL S_1027 := hl_1028.mem hm_933
      have hk_1239 : Kd S_1027 h 12 := hl_1028.kd hm_933 hk_934
      have hm_1240 : q_100 ∈ hL S_1027 := hl_1028.mem hm_935
      have hk_1241 : Kd S_1027 q_100 17 := hl_1028.kd hm_935 hk_936
      have hn_1242 : Ln S_1027 q_100 16 := hl_1028.ln hm_935 hn_937
      have hm_1243 : q_151 ∈ hL S_1027 := hl_1028.mem hm_939
      have hk_1244 : Kd S_1027 q_151 17 := hl_1028.kd hm_939 hk_940
      have hn_1245 : Ln S_1027 q_151 16 := hl_1028.ln hm_939 hn_941
      have hm_1246 : q_196 ∈ hL S_1027 := hl_1028.mem hm_943
      have hk_1247 : Kd S_1027 q_196 17 := hl_1028.kd hm_943 hk_944
      have hn_1248 : Ln S_1027 q_196 16 := hl_1028.ln hm_943 hn_945
      have hm_1249 : q_199 ∈ hL S_1027 := hl_1028.mem hm_947
      have hk_1250 : Kd S_1027 q_199 14 := hl_1028.kd hm_947 hk_948
      have hn_1251 : Ln S_1027 q_199 16 := hl_1028.ln hm_947 hn_949
      have hm_1252 : q_23 ∈ hL S_1027 := hl_1028.mem hm_951
      have hk_1253 : Kd S_1027 q_23 17 := hl_1028.kd hm_951 hk_952
      have hn_1254 : Ln S_1027 q_23 17 := hl_1028.ln hm_951 hn_953
      have hm_1255 : q_258 ∈ hL S_1027 := hl_1028.mem hm_955
      have hk_1256 : Kd S_1027 q_258 13 := hl_1028.kd hm_955 hk_956
      have hn_1257 : Ln S_1027 q_258 12000 := hl_1028.ln hm_955 hn_957
      have hm_1258 : q_26 ∈ hL S_1027 := hl_1028.mem hm_959
      have hk_1259 : Kd S_1027 q_26 14 := hl_1028.kd hm_959 hk_960
      have hn_1260 : Ln S_1027 q_26 119 := hl_1028.ln hm_959 hn_961
      have hm_1261 : q_261 ∈ hL S_1027 := hl_1028.mem hm_963
      have hk_1262 : Kd S_1027 q_261 14 := hl_1028.kd hm_963 hk_964
      have hn_1263 : Ln S_1027 q_261 7 := hl_1028.ln hm_963 hn_965
      have hm_1264 : q_265 ∈ hL S_1027 := hl_1028.mem hm_967
      have hk_1265 : Kd S_1027 q_265 14 := hl_1028.kd hm_967 hk_968
      have hn_1266 : Ln S_1027 q_265 6 := hl_1028.ln hm_967 hn_969
      have hm_1267 : q_30 ∈ hL S_1027 := hl_1028.mem hm_971
      have hk_1268 : Kd S_1027 q_30 14 := hl_1028.kd hm_971 hk_972
      have hn_1269 : Ln S_1027 q_30 4096 := hl_1028.ln hm_971 hn_973
      have hm_1270 : q_335 ∈ hL S_1027 := hl_1028.mem hm_975
      have hk_1271 : Kd S_1027 q_335 13 := hl_1028.kd hm_975 hk_976
      have hn_1272 : Ln S_1027 q_335 8000 := hl_1028.ln hm_975 hn_977
      have hm_1273 : q_342 ∈ hL S_1027 := hl_1028.mem hm_979
      have hk_1274 : Kd S_1027 q_342 13 := hl_1028.kd hm_979 hk_980
      have hn_1275 : Ln S_1027 q_342 64000 := hl_1028.ln hm_979 hn_981
      have hm_1276 : q_509 ∈ hL S_1027 := hl_1028.mem hm_983
      have hk_1277 : Kd S_1027 q_509 13 := hl_1028.kd hm_983 hk_984
      have hn_1278 : Ln S_1027 q_509 60008 := hl_1028.ln hm_983 hn_985
      have hm_1279 : q_512 ∈ hL S_1027 := hl_1028.mem hm_987
      have hk_1280 : Kd S_1027 q_512 14 := hl_1028.kd hm_987 hk_988
      have hn_1281 : Ln S_1027 q_512 12 := hl_1028.ln hm_987 hn_989
      have hm_1282 : q_609 ∈ hL S_1027 := hl_1028.mem hm_991
      have hk_1283 : Kd S_1027 q_609 14 := hl_1028.kd hm_991 hk_992
      have hn_1284 : Ln S_1027 q_609 148 := hl_1028.ln hm_991 hn_993
      have hm_1285 : q_613 ∈ hL S_1027 := hl_1028.mem hm_995
      have hk_1286 : Kd S_1027 q_613 14 := hl_1028.kd hm_995 hk_996
      have hn_1287 : Ln S_1027 q_613 148 := hl_1028.ln hm_995 hn_997
      have hm_1288 : q_8 ∈ hL S_1027 := hl_1028.mem hm_999
      have hk_1289 : Kd S_1027 q_8 17 := hl_1028.kd hm_999 hk_1000
      have hn_1290 : Ln S_1027 q_8 17 := hl_1028.ln hm_999 hn_1001
      have hm_1291 : q_97 ∈ hL S_1027 := hl_1028.mem hm_1003
      have hk_1292 : Kd S_1027 q_97 17 := hl_1028.kd hm_1003 hk_1004
      have hn_1293 : Ln S_1027 q_97 16 := hl_1028.ln hm_1003 hn_1005
      have hv_1294 : hR S_1027 1202 h = (some q_8) := hl_1028.fr hm_933 (fun h9 => h9) hv_1007
      have hv_1295 : hR S_1027 1203 h = (some q_23) := hl_1028.fr hm_933 (fun h9 => h9) hv_1008
      have hv_1296 : hR S_1027 1204 h = (some q_26) := hl_1028.fr hm_933 (fun h9 => h9) hv_1009
      have hv_1297 : hR S_1027 1205 h = (some q_30) := hl_1028.fr hm_933 (fun h9 => h9) hv_1010
      have hv_1298 : hR S_1027 1210 h = (some q_97) := hl_1028.fr hm_933 (fun h9 => h9) hv_1011
      have hv_1299 : hR S_1027 1211 h = (some q_100) := hl_1028.fr hm_933 (fun h9 => h9) hv_1012
      have hv_1300 : hR S_1027 1215 h = (some q_151) := hl_1028.fr hm_933 (fun h9 => h9) hv_1013
      have hv_1301 : hR S_1027 1216 h = (some q_196) := hl_1028.fr hm_933 (fun h9 => h9) hv_1014
      have hv_1302 : hR S_1027 1217 h = (some q_199) := hl_1028.fr hm_933 (fun h9 => h9) hv_1015
      have hv_1303 : hR S_1027 1219 h = (some q_258) := hl_1028.fr hm_933 (fun h9 => h9) hv_1016
      have hv_1304 : hR S_1027 1220 h = (some q_261) := hl_1028.fr hm_933 (fun h9 => h9) hv_1017
      have hv_1305 : hR S_1027 1221 h = (some q_265) := hl_1028.fr hm_933 (fun h9 => h9) hv_1018
      have hv_1306 : hR S_1027 1223 h = (some q_335) := hl_1028.fr hm_933 (fun h9 => h9) hv_1019
      have hv_1307 : hR S_1027 1234 h = (some q_342) := hl_1028.fr hm_933 (fun h9 => h9) hv_1020
      have hv_1308 : hR S_1027 1241 h = (some q_509) := hl_1028.fr hm_933 (fun h9 => h9) hv_1021
      have hv_1309 : hR S_1027 1246 h = (some q_512) := hl_1028.fr hm_933 (fun h9 => h9) hv_1022
      have hv_1310 : hR S_1027 1256 h = (some q_609) := hl_1028.fr hm_933 (fun h9 => h9) hv_1023
      have hv_1311 : hR S_1027 1257 h = (some q_613) := hl_1028.fr hm_933 (fun h9 => h9) hv_1024
      have hf_1312 : Fm (fun f9 b9 => (f9 = 1244 ∧ b9 = h) ∨ (f9 = 1245 ∧ b9 = h)) (fun f9 b9 => b9 = h) (fun _ => False) S S_1027 := hf_1025.then hl_1028 (fun a9 ha9 => ⟨(fun f9 h9 => h9.elim), (fun f9 h9 => h9.elim), (fun h9 => (fun h8 => absurd (h8 ▸ ha9) hz_33) h9)⟩)
      refine j_iload_n C dX12_init_343 rfl 0 rfl ?_
      refine j_sipush (v := 4096) C dX12_init_344 (by decide) ?_
      refine j_ic_ge (tgt := 363) C dX12_init_347 (by decide) (fun c_347 => absurd c_347 (nI_ge (b := 4096) (by omega) (by omega))) (fun c_347 => ?_)
      refine j_aload_n C dX12_init_350 rfl 1 rfl ?_
      show J _ _ _ _ _ 351 _
      refine j_getr (f := 1205) (v := q_30) C flX12_26 dX12_init_351 hm_1238 hk_1239 (by decide) rfl hv_1297 ?_
      refine j_iload_n C dX12_init_354 rfl 0 rfl ?_
      refine j_iconst (v := (-1)) C dX12_init_355 (by decide) ?_
      refine j_iast (j := j1) C dX12_init_356 hm_1267 hk_1268 (inr_of (n := 4096) hn_1269 (vp_in_nI (by omega) (by omega))) (nI_clamp (by omega)) ?_
      refine j_iinc (q := 0) (v := nI (j1 + 1)) (lv' := [(1, .int (nI (j1 + 1))), (0, .ref h)]) C dX12_init_357 rfl (by rw [show Int32.ofInt 1 = 1 by decide]; exact nI_add j1 1) (by rw [hn9]; decide) rfl ?_
      refine j_goto (tgt := 343) C dX12_init_360 (by decide) ?_
      refine J.sub [0, 1] (lv' := [(1, .int (nI (j1 + 1))), (0, .ref h)]) (by rfl) ?_
      exact ih_1029 (j1 + 1) _  (by omega) (hl_1028.tI _ _ (fun _ => rfl)) 
  refine J.sub [0, 1] (lv' := [(1, .int (nI 0)), (0, .ref h)]) (by rw [nI_0]; rfl) ?_
  exact loop_1030 4096 0 _  (by omega) Fm.refl 
